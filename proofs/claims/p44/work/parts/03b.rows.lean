section QB
variable {p : Program} {l : Launch} {e : Env} {R : Room} {s : State} {m : MethodId} {args : Array Value} {below : List Frame} {meth : Method} {c : Code} {H : Heap} {locs : List Loc} {cells slots : Nat} {Q : State → Prop} {cc : ByteArray} {own : String} {X : XW} {n : Nat} {σ0 σ : ST} {H0 : Heap} {pc : Nat} {ls : Array Slot} {rest : List Value} {a k f : Nat}
theorem q_eqI {x y : Int32} : x = y ↔ x.toInt = y.toInt := Int32.toInt_inj.symm
theorem q_z0 : (0 : Int32).toInt = 0 := rfl
theorem q_icmp_eq (E : q_E p c cc s m args own X) {x y : Int32} {A B : Int} {off : Int} {tgt : Nat} (ea : x.toInt = A) (eb : y.toInt = B) (hdg : decode cc pc = .ok (.if_icmp .eq off, 3)) (ht : (pc : Int) + off = (tgt : Int)) (kt : A = B → W p l e R s m args below meth c H locs cells slots Q (F0 m tgt ls rest)) (kf : A ≠ B → W p l e R s m args below meth c H locs cells slots Q (F0 m (pc + 3) ls rest)) : W p l e R s m args below meth c H locs cells slots Q (F0 m pc ls (.int y :: .int x :: rest)) :=
  lv_icmp_eq E.1 E.2.1 hdg ht (fun h => kt (by rw [← ea, ← eb, h])) (fun h => kf (fun q => h (q_eqI.mpr (by omega))))
theorem q_icmp_ne (E : q_E p c cc s m args own X) {x y : Int32} {A B : Int} {off : Int} {tgt : Nat} (ea : x.toInt = A) (eb : y.toInt = B) (hdg : decode cc pc = .ok (.if_icmp .ne off, 3)) (ht : (pc : Int) + off = (tgt : Int)) (kt : A ≠ B → W p l e R s m args below meth c H locs cells slots Q (F0 m tgt ls rest)) (kf : A = B → W p l e R s m args below meth c H locs cells slots Q (F0 m (pc + 3) ls rest)) : W p l e R s m args below meth c H locs cells slots Q (F0 m pc ls (.int y :: .int x :: rest)) :=
  lv_icmp_ne E.1 E.2.1 hdg ht (fun h => kt (fun q => h (q_eqI.mpr (by omega)))) (fun h => kf (by rw [← ea, ← eb, h]))
theorem q_icmp_lt (E : q_E p c cc s m args own X) {x y : Int32} {A B : Int} {off : Int} {tgt : Nat} (ea : x.toInt = A) (eb : y.toInt = B) (hdg : decode cc pc = .ok (.if_icmp .lt off, 3)) (ht : (pc : Int) + off = (tgt : Int)) (kt : A < B → W p l e R s m args below meth c H locs cells slots Q (F0 m tgt ls rest)) (kf : B ≤ A → W p l e R s m args below meth c H locs cells slots Q (F0 m (pc + 3) ls rest)) : W p l e R s m args below meth c H locs cells slots Q (F0 m pc ls (.int y :: .int x :: rest)) :=
  lv_icmp_lt E.1 E.2.1 hdg ht (fun h => kt (by rw [Int32.lt_iff_toInt_lt] at h; omega)) (fun h => kf (by rw [Int32.lt_iff_toInt_lt] at h; omega))
theorem q_icmp_ge (E : q_E p c cc s m args own X) {x y : Int32} {A B : Int} {off : Int} {tgt : Nat} (ea : x.toInt = A) (eb : y.toInt = B) (hdg : decode cc pc = .ok (.if_icmp .ge off, 3)) (ht : (pc : Int) + off = (tgt : Int)) (kt : B ≤ A → W p l e R s m args below meth c H locs cells slots Q (F0 m tgt ls rest)) (kf : A < B → W p l e R s m args below meth c H locs cells slots Q (F0 m (pc + 3) ls rest)) : W p l e R s m args below meth c H locs cells slots Q (F0 m pc ls (.int y :: .int x :: rest)) :=
  lv_icmp_ge E.1 E.2.1 hdg ht (fun h => kt (by rw [Int32.le_iff_toInt_le] at h; omega)) (fun h => kf (by rw [Int32.le_iff_toInt_le] at h; omega))
theorem q_icmp_gt (E : q_E p c cc s m args own X) {x y : Int32} {A B : Int} {off : Int} {tgt : Nat} (ea : x.toInt = A) (eb : y.toInt = B) (hdg : decode cc pc = .ok (.if_icmp .gt off, 3)) (ht : (pc : Int) + off = (tgt : Int)) (kt : B < A → W p l e R s m args below meth c H locs cells slots Q (F0 m tgt ls rest)) (kf : A ≤ B → W p l e R s m args below meth c H locs cells slots Q (F0 m (pc + 3) ls rest)) : W p l e R s m args below meth c H locs cells slots Q (F0 m pc ls (.int y :: .int x :: rest)) :=
  lv_icmp_gt E.1 E.2.1 hdg ht (fun h => kt (by rw [Int32.lt_iff_toInt_lt] at h; omega)) (fun h => kf (by rw [Int32.lt_iff_toInt_lt] at h; omega))
theorem q_icmp_le (E : q_E p c cc s m args own X) {x y : Int32} {A B : Int} {off : Int} {tgt : Nat} (ea : x.toInt = A) (eb : y.toInt = B) (hdg : decode cc pc = .ok (.if_icmp .le off, 3)) (ht : (pc : Int) + off = (tgt : Int)) (kt : A ≤ B → W p l e R s m args below meth c H locs cells slots Q (F0 m tgt ls rest)) (kf : B < A → W p l e R s m args below meth c H locs cells slots Q (F0 m (pc + 3) ls rest)) : W p l e R s m args below meth c H locs cells slots Q (F0 m pc ls (.int y :: .int x :: rest)) :=
  lv_icmp_le E.1 E.2.1 hdg ht (fun h => kt (by rw [Int32.le_iff_toInt_le] at h; omega)) (fun h => kf (by rw [Int32.le_iff_toInt_le] at h; omega))
theorem q_if_eq (E : q_E p c cc s m args own X) {x : Int32} {A : Int} {off : Int} {tgt : Nat} (ea : x.toInt = A) (hdg : decode cc pc = .ok (.ifCond .eq off, 3)) (ht : (pc : Int) + off = (tgt : Int)) (kt : A = 0 → W p l e R s m args below meth c H locs cells slots Q (F0 m tgt ls rest)) (kf : A ≠ 0 → W p l e R s m args below meth c H locs cells slots Q (F0 m (pc + 3) ls rest)) : W p l e R s m args below meth c H locs cells slots Q (F0 m pc ls (.int x :: rest)) :=
  lv_if_eq E.1 E.2.1 hdg ht (fun h => kt (by rw [← ea, h]; rfl)) (fun h => kf (fun q => h (q_eqI.mpr (by rw [q_z0]; omega))))
theorem q_if_ne (E : q_E p c cc s m args own X) {x : Int32} {A : Int} {off : Int} {tgt : Nat} (ea : x.toInt = A) (hdg : decode cc pc = .ok (.ifCond .ne off, 3)) (ht : (pc : Int) + off = (tgt : Int)) (kt : A ≠ 0 → W p l e R s m args below meth c H locs cells slots Q (F0 m tgt ls rest)) (kf : A = 0 → W p l e R s m args below meth c H locs cells slots Q (F0 m (pc + 3) ls rest)) : W p l e R s m args below meth c H locs cells slots Q (F0 m pc ls (.int x :: rest)) :=
  lv_if_ne E.1 E.2.1 hdg ht (fun h => kt (fun q => h (q_eqI.mpr (by rw [q_z0]; omega)))) (fun h => kf (by rw [← ea, h]; rfl))
theorem q_if_lt (E : q_E p c cc s m args own X) {x : Int32} {A : Int} {off : Int} {tgt : Nat} (ea : x.toInt = A) (hdg : decode cc pc = .ok (.ifCond .lt off, 3)) (ht : (pc : Int) + off = (tgt : Int)) (kt : A < 0 → W p l e R s m args below meth c H locs cells slots Q (F0 m tgt ls rest)) (kf : 0 ≤ A → W p l e R s m args below meth c H locs cells slots Q (F0 m (pc + 3) ls rest)) : W p l e R s m args below meth c H locs cells slots Q (F0 m pc ls (.int x :: rest)) :=
  lv_if_lt E.1 E.2.1 hdg ht (fun h => kt (by rw [Int32.lt_iff_toInt_lt, q_z0] at h; omega)) (fun h => kf (by rw [Int32.lt_iff_toInt_lt, q_z0] at h; omega))
theorem q_if_ge (E : q_E p c cc s m args own X) {x : Int32} {A : Int} {off : Int} {tgt : Nat} (ea : x.toInt = A) (hdg : decode cc pc = .ok (.ifCond .ge off, 3)) (ht : (pc : Int) + off = (tgt : Int)) (kt : 0 ≤ A → W p l e R s m args below meth c H locs cells slots Q (F0 m tgt ls rest)) (kf : A < 0 → W p l e R s m args below meth c H locs cells slots Q (F0 m (pc + 3) ls rest)) : W p l e R s m args below meth c H locs cells slots Q (F0 m pc ls (.int x :: rest)) :=
  lv_if_ge E.1 E.2.1 hdg ht (fun h => kt (by rw [Int32.le_iff_toInt_le, q_z0] at h; omega)) (fun h => kf (by rw [Int32.le_iff_toInt_le, q_z0] at h; omega))
theorem q_if_gt (E : q_E p c cc s m args own X) {x : Int32} {A : Int} {off : Int} {tgt : Nat} (ea : x.toInt = A) (hdg : decode cc pc = .ok (.ifCond .gt off, 3)) (ht : (pc : Int) + off = (tgt : Int)) (kt : 0 < A → W p l e R s m args below meth c H locs cells slots Q (F0 m tgt ls rest)) (kf : A ≤ 0 → W p l e R s m args below meth c H locs cells slots Q (F0 m (pc + 3) ls rest)) : W p l e R s m args below meth c H locs cells slots Q (F0 m pc ls (.int x :: rest)) :=
  lv_if_gt E.1 E.2.1 hdg ht (fun h => kt (by rw [Int32.lt_iff_toInt_lt, q_z0] at h; omega)) (fun h => kf (by rw [Int32.lt_iff_toInt_lt, q_z0] at h; omega))
theorem q_if_le (E : q_E p c cc s m args own X) {x : Int32} {A : Int} {off : Int} {tgt : Nat} (ea : x.toInt = A) (hdg : decode cc pc = .ok (.ifCond .le off, 3)) (ht : (pc : Int) + off = (tgt : Int)) (kt : A ≤ 0 → W p l e R s m args below meth c H locs cells slots Q (F0 m tgt ls rest)) (kf : 0 < A → W p l e R s m args below meth c H locs cells slots Q (F0 m (pc + 3) ls rest)) : W p l e R s m args below meth c H locs cells slots Q (F0 m pc ls (.int x :: rest)) :=
  lv_if_le E.1 E.2.1 hdg ht (fun h => kt (by rw [Int32.le_iff_toInt_le, q_z0] at h; omega)) (fun h => kf (by rw [Int32.le_iff_toInt_le, q_z0] at h; omega))
/-- compare of longs -/
theorem q_lcmp (E : q_E p c cc s m args own X) {x y : Int64} (hdg : decode cc pc = .ok (.lcmp, 1)) (kk : ∀ z : Int32, ((z.toInt < 0 ↔ x.toInt < y.toInt) ∧ (0 < z.toInt ↔ y.toInt < x.toInt)) → W p l e R s m args below meth c H locs cells slots Q (F0 m (pc + 1) ls (.int z :: rest))) : W p l e R s m args below meth c H locs cells slots Q (F0 m pc ls (.long y :: .long x :: rest)) := by
  refine W.lcmp E.1 E.2.1 hdg (kk _ ⟨?_, ?_⟩)
  · have h := lg_cmp_lt x y
    rw [Int32.lt_iff_toInt_lt, q_z0, Int64.lt_iff_toInt_lt] at h
    exact h
  · have h := lg_cmp_gt x y
    rw [Int32.lt_iff_toInt_lt, q_z0, Int64.lt_iff_toInt_lt] at h
    exact h
/-- stores into arrays, the new state named -/
theorem q_iastN (E : q_E p c cc s m args own X) (hI : q_I X n σ0 H0 locs σ H) (ha : q_kd X a = k) (hk : 20 ≤ k ∧ q_et k = 1) {i v : Int32} (h0 : 0 ≤ i.toInt) (h1 : i.toInt < q_ln X a) (hcl : n < q_cl k i.toNatClampNeg) (hv : q_in (q_bn k i.toNatClampNeg) v) (hdg : decode cc pc = .ok (.iastore, 1))
    (kk : ∀ (H1 : Heap) (locs1 : List Loc) (σ1 : ST), σ1 = q_si σ a i.toNatClampNeg v → q_I X n σ0 H0 locs1 σ1 H1 → W p l e R s m args below meth c H1 locs1 cells slots Q (F0 m (pc + 1) ls rest)) : W p l e R s m args below meth c H locs cells slots Q (F0 m pc ls (.int v :: .int i :: .ref a :: rest)) :=
  q_iast E hI ha hk h0 h1 hcl hv hdg (fun H1 l1 h => kk H1 l1 _ rfl h)
theorem q_bastN (E : q_E p c cc s m args own X) (hI : q_I X n σ0 H0 locs σ H) (ha : q_kd X a = k) (hk : 20 ≤ k ∧ q_et k = 0) {i v : Int32} (h0 : 0 ≤ i.toInt) (h1 : i.toInt < q_ln X a) (hcl : n < q_cl k i.toNatClampNeg) (hv : q_bn k i.toNatClampNeg = q_full) (hdg : decode cc pc = .ok (.bastore, 1))
    (kk : ∀ (H1 : Heap) (locs1 : List Loc) (σ1 : ST), σ1 = q_si σ a i.toNatClampNeg v.toInt8.toInt32 → q_I X n σ0 H0 locs1 σ1 H1 → W p l e R s m args below meth c H1 locs1 cells slots Q (F0 m (pc + 1) ls rest)) : W p l e R s m args below meth c H locs cells slots Q (F0 m pc ls (.int v :: .int i :: .ref a :: rest)) :=
  q_bast E hI ha hk h0 h1 hcl hv hdg (fun H1 l1 h => kk H1 l1 _ rfl h)
theorem q_lastN (E : q_E p c cc s m args own X) (hI : q_I X n σ0 H0 locs σ H) (ha : q_kd X a = k) (hk : 20 ≤ k ∧ q_et k = 2) {i : Int32} {v : Int64} (h0 : 0 ≤ i.toInt) (h1 : i.toInt < q_ln X a) (hdg : decode cc pc = .ok (.lastore, 1))
    (kk : ∀ (H1 : Heap) (locs1 : List Loc) (σ1 : ST), σ1 = q_sl σ a i.toNatClampNeg v → q_I X n σ0 H0 locs1 σ1 H1 → W p l e R s m args below meth c H1 locs1 cells slots Q (F0 m (pc + 1) ls rest)) : W p l e R s m args below meth c H locs cells slots Q (F0 m pc ls (.long v :: .int i :: .ref a :: rest)) :=
  q_last E hI ha hk h0 h1 hdg (fun H1 l1 h => kk H1 l1 _ rfl h)
end QB
theorem q_tk23 {X : XW} {n : Nat} {σ0 σ : ST} {H0 H : Heap} {locs : List Loc} (hI : q_I X n σ0 H0 locs σ H) {a : Nat} (ha : q_kd X a = 23) {i : Int32} (h0 : 0 ≤ i.toInt) (h1 : i.toInt < 4) : q_kd X (q_rf X a i.toNatClampNeg) = 10 := by
  have hv : vp_in i 4 := vp_in_iff.mpr ⟨h0, by simpa using h1⟩
  obtain ⟨j, hj, rfl⟩ := vp_in_of hv (by decide)
  rw [nI_clamp (by omega)]
  exact q_tk hI ha (by match j, hj with | 0, _ => rfl | 1, _ => rfl | 2, _ => rfl | 3, _ => rfl) (by decide)
theorem q_tk24 {X : XW} {n : Nat} {σ0 σ : ST} {H0 H : Heap} {locs : List Loc} (hI : q_I X n σ0 H0 locs σ H) {a : Nat} (ha : q_kd X a = 24) {i : Int32} (h0 : 0 ≤ i.toInt) (h1 : i.toInt < 3) : q_kd X (q_rf X a i.toNatClampNeg) = 1 := by
  have hv : vp_in i 3 := vp_in_iff.mpr ⟨h0, by simpa using h1⟩
  obtain ⟨j, hj, rfl⟩ := vp_in_of hv (by decide)
  rw [nI_clamp (by omega)]
  exact q_tk hI ha (by match j, hj with | 0, _ => rfl | 1, _ => rfl | 2, _ => rfl) (by decide)
theorem q_ne0 {y : Int32} (h : y.toInt ≠ 0) : ¬ y = 0 := fun q => h (by rw [q]; rfl)
theorem q_ne0l {y : Int64} (h : y.toInt ≠ 0) : ¬ y = 0 := fun q => h (by rw [q]; rfl)
theorem q_add {x y z : Int32} (e : z = x + y) (h1 : -2147483648 ≤ x.toInt + y.toInt) (h2 : x.toInt + y.toInt ≤ 2147483647) : z.toInt = x.toInt + y.toInt := by
  rw [e, Int32.toInt_add]
  exact Int.bmod_eq_of_le (by omega) (by omega)
theorem q_sub {x y z : Int32} (e : z = x - y) (h1 : -2147483648 ≤ x.toInt - y.toInt) (h2 : x.toInt - y.toInt ≤ 2147483647) : z.toInt = x.toInt - y.toInt := by
  rw [e, Int32.toInt_sub]
  exact Int.bmod_eq_of_le (by omega) (by omega)
theorem q_mul {x y z : Int32} (e : z = x * y) (h1 : -2147483648 ≤ x.toInt * y.toInt) (h2 : x.toInt * y.toInt ≤ 2147483647) : z.toInt = x.toInt * y.toInt := by
  rw [e, Int32.toInt_mul]
  exact Int.bmod_eq_of_le (by omega) (by omega)
theorem q_i2l (x : Int32) : x.toInt64.toInt = x.toInt := Int32.toInt_toInt64 x
theorem q_cn {x : Int32} : x.toNatClampNeg = x.toInt.toNat := rfl
