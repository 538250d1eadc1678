section QR
variable {p : Program} {l : Launch} {e : Env} {R : Room} {s : State} {m : MethodId} {args : Array Value} {below : List Frame} {meth : Method} {c : Code} {H : Heap} {locs : List Loc} {cells slots : Nat} {Q : State → Prop} {cc : ByteArray} {own : String} {X : XW} {n : Nat} {σ0 σ : ST} {H0 : Heap} {pc : Nat} {ls : Array Slot} {rest : List Value} {a k f : Nat}
theorem q_kx_ty {U : State} (hK : va_K (q_gD X) vwCl (q_tys X) U) {t : Nat} {ty : FieldType} (h : (q_tys X)[t]? = some (q_gA X t, ty)) : ArrOfT U (q_gA X t) ty := (hK.2 t _ h).1
theorem q_obj (hI : q_I X n σ0 H0 locs σ H) (ha : q_kd X a = k) {ci N : Nat} {C : String} {T : u_T} (hk : k = ci + 1 ∧ k < 20) (hc : vwCl[ci]? = some (C, T, N)) : t_OB a ((q_gD X).1 ci) N ((q_gD X).2 ci) H (q_fvk X σ k a) := by
  obtain ⟨rfl, h20⟩ := hk
  obtain ⟨r, h1, h2⟩ := (hI.2.1 a (by omega)).1 (by omega)
  rw [ha] at h1 h2
  have hr : r = (C, T, N) := Option.some.inj (h1.symm.trans hc)
  subst hr
  exact h2
theorem q_arr (hI : q_I X n σ0 H0 locs σ H) (ha : q_kd X a = k) (hk : 20 ≤ k) : H[a]? = some (arrV (q_gA X (q_et k)) (q_ln X a) (q_av X σ k a)) := by
  have h := (hI.2.1 a (by omega)).2 (by omega)
  rw [ha] at h
  exact h
/-- getfield -/
theorem q_getf (E : q_E p c cc s m args own X) (hI : q_I X n σ0 H0 locs σ H) (ha : q_kd X a = k) {ci N index : Nat} {C ref : String} {T : u_T} {v : Value} (hk : k = ci + 1 ∧ k < 20) (hc : vwCl[ci]? = some (C, T, N)) (hin : ∀ w ∈ u_ws C T N, w ∈ q_tbl) (hf : f < N)
    (hlink : Cond.fieldLink own index ref (T f).2.1 (T f).2.2.1 ∈ q_tbl) (hsame : ref = (T f).1 ∨ Cond.sameField ref (T f).1 (T f).2.1 (T f).2.2.1 ∈ q_tbl) (hv : q_fvk X σ k a f = v) (hdg : decode cc pc = .ok (.getfield index, 3))
    (kk : W p l e R s m args below meth c H locs cells slots Q (F0 m (pc + 3) ls (v :: rest))) : W p l e R s m args below meth c H locs cells slots Q (F0 m pc ls (.ref a :: rest)) := by
  obtain ⟨hx, hb, hown, hts, ⟨hK, -, -⟩, -⟩ := E
  obtain ⟨cell, q1, q2, q3, q4⟩ := q_obj hI ha hk hc
  obtain ⟨hS, hfc, kC, hkC, hkind⟩ := hK.1 ci _ hc
  obtain ⟨cf, kf, fi, fd, hi, hsl⟩ := hS f hf
  have hi' : s.fieldFound? ref (T f).2.1 (T f).2.2.1 = some (cf, kf, fi, fd) := by
    rcases hsame with h | h
    · rw [h]; exact hi
    · exact u_same (hts _ h) _ hi
  refine W.getf hx hb hown (hts _ hlink) hi' (u_facts hfc hkC (u_lays hts hin hf) hi).1 q1 (by rw [q3]; exact fun h => by cases h) (v := v) ?_ rfl rfl hdg kk
  rw [hsl, q4 f hf, hv]
/-- a cell of the world written -/
theorem q_R.up {σ' : ST} {H1 : Heap} (h : q_R X σ H) (oq : ∀ q : Nat, q ≠ a → H1[q]? = H[q]?) (h1 : q_cf X σ' a H1) (e1 : ∀ b g, b ≠ a → σ'.1 b g = σ.1 b g) (e2 : ∀ b g, b ≠ a → σ'.2.1 b g = σ.2.1 b g) (e3 : ∀ b, b ≠ a → σ'.2.2 b = σ.2.2 b) : q_R X σ' H1 := by
  intro b hb
  by_cases hba : b = a
  · subst hba; exact h1
  · exact (h b hb).ne (fun g => e1 b g hba) (fun g => e2 b g hba) (e3 b hba) (oq b hba)
theorem q_B.si {v : Int32} (h : q_B X σ) (ha : q_kd X a = k) (hv : q_in (q_bn k f) v) : q_B X (q_si σ a f v) := by
  intro b g
  show q_in _ (if b = a ∧ g = f then v else σ.1 b g)
  by_cases hq : b = a ∧ g = f
  · rw [if_pos hq]
    obtain ⟨rfl, rfl⟩ := hq
    rw [ha]
    exact hv
  · rw [if_neg hq]
    exact h b g
/-- putfield of an object, the new value as the state says -/
theorem q_putf (E : q_E p c cc s m args own X) (hI : q_I X n σ0 H0 locs σ H) (ha : q_kd X a = k) {ci N index : Nat} {C ref : String} {T : u_T} {ty0 : Nat → FieldType} {v : Value} (hk : k = ci + 1 ∧ k < 20) (hc : vwCl[ci]? = some (C, T, N)) (hin : ∀ w ∈ u_ws C T N, w ∈ q_tbl) (hty : ∀ k, k < N → parseFieldDescriptor (T k).2.2.1 = some (ty0 k)) (hnm : ∀ a, a < N → ∀ b, b < N → a ≠ b → (T a).2.1 ≠ (T b).2.1) (hf : f < N)
    (hlink : Cond.fieldLink own index ref (T f).2.1 (T f).2.2.1 ∈ q_tbl) (hsame : ref = (T f).1 ∨ Cond.sameField ref (T f).1 (T f).2.1 (T f).2.2.1 ∈ q_tbl) (hfin : (T f).2.2.2 = false) {ty : FieldType} (hd : parseFieldDescriptor (T f).2.2.1 = some ty) (hn : narrow ty v = v) (hfit : fits ty v = true)
    {σ1 : ST} (hup : ∀ g, g < N → updV (q_fvk X σ k a) f v g = q_fvk X σ1 k a g) (e1 : ∀ b g, b ≠ a → σ1.1 b g = σ.1 b g) (e2 : ∀ b g, b ≠ a → σ1.2.1 b g = σ.2.1 b g) (e3 : ∀ b, b ≠ a → σ1.2.2 b = σ.2.2 b) (hB : q_B X σ1) (hTT : q_TT X σ1) (hKp : q_K n X σ σ1)
    (hdg : decode cc pc = .ok (.putfield index, 3))
    (kk : ∀ (H1 : Heap) (locs1 : List Loc), q_I X n σ0 H0 locs1 σ1 H1 → W p l e R s m args below meth c H1 locs1 cells slots Q (F0 m (pc + 3) ls rest)) : W p l e R s m args below meth c H locs cells slots Q (F0 m pc ls (v :: .ref a :: rest)) := by
  obtain ⟨hx, hb, hown, hts, ⟨hK, -, -⟩, -⟩ := E
  obtain ⟨cell, q1, q2, q3, q4⟩ := q_obj hI ha hk hc
  have hap := va_apart (own := own) hts hin ty0 hty hnm hK hc
  obtain ⟨hS, hfc, kC, hkC, hkind⟩ := hK.1 ci _ hc
  obtain ⟨cf, kf, fi, fd, hi, hsl⟩ := hS f hf
  have hi' : s.fieldFound? ref (T f).2.1 (T f).2.2.1 = some (cf, kf, fi, fd) := by
    rcases hsame with h | h
    · rw [h]; exact hi
    · exact u_same (hts _ h) _ hi
  have hlay := hts _ (hin _ (u_in_lay hf))
  unfold u_lay at hlay
  rw [if_neg (by rw [hfin]; decide)] at hlay
  have hst := (u_facts hfc hkC (u_lays hts hin hf) hi).1
  have h6 := u_store hfc hkC hkind hlay hi hd hn hfit
  refine W.putK hx hb (f := fd) ⟨hown, hts _ hlink, ⟨_, _, _, hi'⟩, hst⟩ (by rw [q2]; exact h6) q1 q3 (by rw [hsl]; exact k2_hasslot (q4 f hf)) rfl rfl hdg fun H' g1 g2 g3 => ?_
  rw [hsl] at g1 ⊢
  obtain ⟨i1, i2, i3, i4, i5, i6⟩ := hI
  obtain ⟨rfl, h20⟩ := hk
  refine kk H' _ ⟨i1, i2.up g3 ⟨fun _ => ?_, fun h => absurd h (by omega)⟩ e1 e2 e3, hB, hTT, i5.put g2 g3 (by show q_kd X a ≠ 0; omega), i6.tr hKp⟩
  rw [ha]
  refine ⟨_, hc, ?_⟩
  exact t_OB.to (V := updV (q_fvk X σ (ci + 1) a) f v) ⟨_, g1, q2, q3, t_set q4 hap hf v⟩ hup
theorem q_nar0 {ty : FieldType} {v : Int32} (h : ty = .int ∨ (ty = .boolean ∧ 0 ≤ v.toInt ∧ v.toInt ≤ 1)) : narrow ty (.int v) = .int v ∧ fits ty (.int v) = true := by
  rcases h with rfl | ⟨rfl, h1, h2⟩
  · exact ⟨rfl, rfl⟩
  · have h3 : v = 0 ∨ v = 1 := by
      rcases (show v.toInt = 0 ∨ v.toInt = 1 by omega) with h | h
      · exact Or.inl (Int32.toInt_inj.mp (by rw [h]; rfl))
      · exact Or.inr (Int32.toInt_inj.mp (by rw [h]; rfl))
    rcases h3 with rfl | rfl <;> exact ⟨rfl, rfl⟩
/-- putfield of an int or boolean -/
theorem q_puti (E : q_E p c cc s m args own X) (hI : q_I X n σ0 H0 locs σ H) (ha : q_kd X a = k) {ci N index : Nat} {C ref : String} {T : u_T} {ty0 : Nat → FieldType} {v : Int32} (hk : k = ci + 1 ∧ k < 20) (hc : vwCl[ci]? = some (C, T, N)) (hin : ∀ w ∈ u_ws C T N, w ∈ q_tbl) (hty : ∀ k, k < N → parseFieldDescriptor (T k).2.2.1 = some (ty0 k)) (hnm : ∀ a, a < N → ∀ b, b < N → a ≠ b → (T a).2.1 ≠ (T b).2.1) (hf : f < N)
    (hlink : Cond.fieldLink own index ref (T f).2.1 (T f).2.2.1 ∈ q_tbl) (hsame : ref = (T f).1 ∨ Cond.sameField ref (T f).1 (T f).2.1 (T f).2.2.1 ∈ q_tbl) (hfin : (T f).2.2.2 = false) (hft : q_ft k f = 0) (hcl : n < q_cl k f) (hdg : decode cc pc = .ok (.putfield index, 3))
    (hv : q_in (q_bn k f) v) (hn : ty0 f = .int ∨ (ty0 f = .boolean ∧ 0 ≤ v.toInt ∧ v.toInt ≤ 1))
    (kk : ∀ (H1 : Heap) (locs1 : List Loc), q_I X n σ0 H0 locs1 (q_si σ a f v) H1 → W p l e R s m args below meth c H1 locs1 cells slots Q (F0 m (pc + 3) ls rest)) : W p l e R s m args below meth c H locs cells slots Q (F0 m pc ls (.int v :: .ref a :: rest)) := by
  refine q_putf E hI ha hk hc hin hty hnm hf hlink hsame hfin (hty f hf) (q_nar0 hn).1 (q_nar0 hn).2 (fun g _ => q_fv_si hft g) (fun b g hb => ?_) (fun _ _ _ => rfl) (fun _ _ => rfl) (hI.2.2.1.si ha hv) hI.2.2.2.1 (q_K.si ha hcl) hdg kk
  show (if b = a ∧ g = f then v else σ.1 b g) = _
  rw [if_neg (fun h => hb h.1)]
/-- putfield of a long -/
theorem q_putl (E : q_E p c cc s m args own X) (hI : q_I X n σ0 H0 locs σ H) (ha : q_kd X a = k) {ci N index : Nat} {C ref : String} {T : u_T} {ty0 : Nat → FieldType} {v : Int64} (hk : k = ci + 1 ∧ k < 20) (hc : vwCl[ci]? = some (C, T, N)) (hin : ∀ w ∈ u_ws C T N, w ∈ q_tbl) (hty : ∀ k, k < N → parseFieldDescriptor (T k).2.2.1 = some (ty0 k)) (hnm : ∀ a, a < N → ∀ b, b < N → a ≠ b → (T a).2.1 ≠ (T b).2.1) (hf : f < N)
    (hlink : Cond.fieldLink own index ref (T f).2.1 (T f).2.2.1 ∈ q_tbl) (hsame : ref = (T f).1 ∨ Cond.sameField ref (T f).1 (T f).2.1 (T f).2.2.1 ∈ q_tbl) (hfin : (T f).2.2.2 = false) (hft : q_ft k f = 1) (hty2 : ty0 f = .long) (hdg : decode cc pc = .ok (.putfield index, 3))
    (kk : ∀ (H1 : Heap) (locs1 : List Loc), q_I X n σ0 H0 locs1 (q_sl σ a f v) H1 → W p l e R s m args below meth c H1 locs1 cells slots Q (F0 m (pc + 3) ls rest)) : W p l e R s m args below meth c H locs cells slots Q (F0 m pc ls (.long v :: .ref a :: rest)) := by
  refine q_putf E hI ha hk hc hin hty hnm hf hlink hsame hfin (hty f hf) (by rw [hty2]; rfl) (by rw [hty2]; rfl) (fun g _ => q_fv_sl hft g) (fun _ _ _ => rfl) (fun b g hb => ?_) (fun _ _ => rfl) hI.2.2.1 hI.2.2.2.1 (fun _ _ _ => rfl) hdg kk
  show (if b = a ∧ g = f then v else σ.2.1 b g) = _
  rw [if_neg (fun h => hb h.1)]
/-- putfield of a reader's text -/
theorem q_putt (E : q_E p c cc s m args own X) (hI : q_I X n σ0 H0 locs σ H) (ha : q_kd X a = k) {ci N index : Nat} {C ref : String} {T : u_T} {ty0 : Nat → FieldType} {v : Nat} (hk : k = ci + 1 ∧ k < 20) (hk2 : k = 4 ∨ k = 9) (hc : vwCl[ci]? = some (C, T, N)) (hin : ∀ w ∈ u_ws C T N, w ∈ q_tbl) (hty : ∀ k, k < N → parseFieldDescriptor (T k).2.2.1 = some (ty0 k)) (hnm : ∀ a, a < N → ∀ b, b < N → a ≠ b → (T a).2.1 ≠ (T b).2.1) (hf : 0 < N)
    (hlink : Cond.fieldLink own index ref (T 0).2.1 (T 0).2.2.1 ∈ q_tbl) (hsame : ref = (T 0).1 ∨ Cond.sameField ref (T 0).1 (T 0).2.1 (T 0).2.2.1 ∈ q_tbl) (hfin : (T 0).2.2.2 = false) (hty2 : ty0 0 = .array .byte) (hv : q_kd X v = 22) (hdg : decode cc pc = .ok (.putfield index, 3))
    (kk : ∀ (H1 : Heap) (locs1 : List Loc), q_I X n σ0 H0 locs1 (q_st σ a v) H1 → W p l e R s m args below meth c H1 locs1 cells slots Q (F0 m (pc + 3) ls rest)) : W p l e R s m args below meth c H locs cells slots Q (F0 m pc ls (.ref v :: .ref a :: rest)) := by
  have hft : ∀ g, q_ft k g = 3 ↔ g = 0 := by
    intro g
    rcases hk2 with rfl | rfl
    · refine ⟨fun h => ?_, fun h => by rw [h]; rfl⟩
      change (match g with | 0 => 3 | 8 => 2 | 9 => 2 | _ => 0) = 3 at h
      split at h <;> first | rfl | cases h
    · refine ⟨fun h => ?_, fun h => by rw [h]; rfl⟩
      change (match g with | 0 => 3 | 8 => 2 | 11 => 2 | _ => 0) = 3 at h
      split at h <;> first | rfl | cases h
  have hft3 : ∀ g, q_ft k g ≤ 3 := by
    intro g
    unfold q_ft
    split <;> (try split) <;> decide
  refine q_putf (f := 0) E hI ha hk hc hin hty hnm hf hlink hsame hfin (hty 0 hf) (by rw [hty2]; rfl) (by rw [hty2]; rfl) (fun g _ => q_fv_st hft hft3 g) (fun _ _ _ => rfl) (fun _ _ _ => rfl) (fun b hb => ?_) hI.2.2.1 (fun b hb => ?_) (fun _ _ _ => rfl) hdg kk
  · show (if b = a then v else σ.2.2 b) = _
    rw [if_neg hb]
  · show q_kd X (if b = a then v else σ.2.2 b) = 22
    by_cases hq : b = a
    · rw [if_pos hq]; exact hv
    · rw [if_neg hq]; exact hI.2.2.2.1 b hb
/-! arrays -/
theorem q_iald (E : q_E p c cc s m args own X) (hI : q_I X n σ0 H0 locs σ H) (ha : q_kd X a = k) (hk : 20 ≤ k ∧ q_et k = 1) {i : Int32} (h0 : 0 ≤ i.toInt) (h1 : i.toInt < q_ln X a) (hdg : decode cc pc = .ok (.iaload, 1))
    (kk : W p l e R s m args below meth c H locs cells slots Q (F0 m (pc + 1) ls (.int (σ.1 a i.toNatClampNeg) :: rest))) : W p l e R s m args below meth c H locs cells slots Q (F0 m pc ls (.int i :: .ref a :: rest)) := by
  obtain ⟨hx, hb, hown, hts, ⟨hK, -, -⟩, -⟩ := E
  have hc := q_arr hI ha hk.1
  have hin : vp_in i (q_ln X a) := vp_in_iff.mpr ⟨h0, h1⟩
  have hlt : i.toNatClampNeg < q_ln X a := Nat.not_le.mp fun q => hin (Or.inr q)
  rw [hk.2] at hc
  exact W.iald (v := .int (σ.1 a i.toNatClampNeg)) hx hb hc (q_kx_ty hK (t := 1) rfl _ _) (fun q => by cases q) (by rw [arrV_size]; exact hin) (by rw [arrV_read _ _ hlt]; unfold q_av; rw [hk.2]; rfl) rfl rfl hdg kk
theorem q_lald (E : q_E p c cc s m args own X) (hI : q_I X n σ0 H0 locs σ H) (ha : q_kd X a = k) (hk : 20 ≤ k ∧ q_et k = 2) {i : Int32} (h0 : 0 ≤ i.toInt) (h1 : i.toInt < q_ln X a) (hdg : decode cc pc = .ok (.laload, 1))
    (kk : W p l e R s m args below meth c H locs cells slots Q (F0 m (pc + 1) ls (.long (σ.2.1 a i.toNatClampNeg) :: rest))) : W p l e R s m args below meth c H locs cells slots Q (F0 m pc ls (.int i :: .ref a :: rest)) := by
  obtain ⟨hx, hb, hown, hts, ⟨hK, -, -⟩, -⟩ := E
  have hc := q_arr hI ha hk.1
  have hin : vp_in i (q_ln X a) := vp_in_iff.mpr ⟨h0, h1⟩
  have hlt : i.toNatClampNeg < q_ln X a := Nat.not_le.mp fun q => hin (Or.inr q)
  rw [hk.2] at hc
  exact W.lald (v := .long (σ.2.1 a i.toNatClampNeg)) hx hb hc (q_kx_ty hK (t := 2) rfl _ _) (fun q => by cases q) (by rw [arrV_size]; exact hin) (by rw [arrV_read _ _ hlt]; unfold q_av; rw [hk.2]; rfl) rfl rfl hdg kk
theorem q_bald (E : q_E p c cc s m args own X) (hI : q_I X n σ0 H0 locs σ H) (ha : q_kd X a = k) (hk : 20 ≤ k ∧ q_et k = 0) {i : Int32} (h0 : 0 ≤ i.toInt) (h1 : i.toInt < q_ln X a) (hdg : decode cc pc = .ok (.baload, 1))
    (kk : W p l e R s m args below meth c H locs cells slots Q (F0 m (pc + 1) ls (.int (σ.1 a i.toNatClampNeg) :: rest))) : W p l e R s m args below meth c H locs cells slots Q (F0 m pc ls (.int i :: .ref a :: rest)) := by
  obtain ⟨hx, hb, hown, hts, ⟨hK, -, -⟩, -⟩ := E
  have hc := q_arr hI ha hk.1
  have hin : vp_in i (q_ln X a) := vp_in_iff.mpr ⟨h0, h1⟩
  have hlt : i.toNatClampNeg < q_ln X a := Nat.not_le.mp fun q => hin (Or.inr q)
  rw [hk.2] at hc
  exact W.bald (v := .int (σ.1 a i.toNatClampNeg)) hx hb hc (q_kx_ty hK (t := 0) rfl _ _) (fun q => by cases q) (by rw [arrV_size]; exact hin) (by rw [arrV_read _ _ hlt]; unfold q_av; rw [hk.2]; rfl) rfl rfl hdg kk
theorem q_aald (E : q_E p c cc s m args own X) (hI : q_I X n σ0 H0 locs σ H) (ha : q_kd X a = k) (hk : k = 23 ∨ k = 24) {i : Int32} (h0 : 0 ≤ i.toInt) (h1 : i.toInt < q_ln X a) (hdg : decode cc pc = .ok (.aaload, 1))
    (kk : W p l e R s m args below meth c H locs cells slots Q (F0 m (pc + 1) ls (.ref (q_rf X a i.toNatClampNeg) :: rest))) : W p l e R s m args below meth c H locs cells slots Q (F0 m pc ls (.int i :: .ref a :: rest)) := by
  obtain ⟨hx, hb, hown, hts, ⟨hK, -, -⟩, -⟩ := E
  have hin : vp_in i (q_ln X a) := vp_in_iff.mpr ⟨h0, h1⟩
  have hlt : i.toNatClampNeg < q_ln X a := Nat.not_le.mp fun q => hin (Or.inr q)
  rcases hk with rfl | rfl
  · exact W.aald (ty := .object "CheatHeap$Tray") (v := .ref (q_rf X a i.toNatClampNeg)) hx hb (q_arr hI ha (by decide)) (q_kx_ty hK (t := 3) rfl _ _) rfl (fun q => by cases q) (by rw [arrV_size]; exact hin) (by rw [arrV_read _ _ hlt]; rfl) rfl rfl hdg kk
  · exact W.aald (ty := .object "CheatHeap$Game") (v := .ref (q_rf X a i.toNatClampNeg)) hx hb (q_arr hI ha (by decide)) (q_kx_ty hK (t := 4) rfl _ _) rfl (fun q => by cases q) (by rw [arrV_size]; exact hin) (by rw [arrV_read _ _ hlt]; rfl) rfl rfl hdg kk
theorem q_alen (E : q_E p c cc s m args own X) (hI : q_I X n σ0 H0 locs σ H) (ha : q_kd X a = k) (hk : 20 ≤ k) {t : Nat} {ty : FieldType} (he : q_et k = t) (ht : (q_tys X)[t]? = some (q_gA X t, ty)) (hdg : decode cc pc = .ok (.arraylength, 1))
    (kk : ∀ z : Int32, z.toInt = (q_ln X a : Int) → W p l e R s m args below meth c H locs cells slots Q (F0 m (pc + 1) ls (.int z :: rest))) : W p l e R s m args below meth c H locs cells slots Q (F0 m pc ls (.ref a :: rest)) := by
  obtain ⟨hx, hb, hown, hts, ⟨hK, -, -⟩, -⟩ := E
  have hc := q_arr hI ha hk
  rw [he] at hc
  have hln := hI.1.2.2.1 a
  exact W.alen (n := Int32.ofNat (q_ln X a)) hx hb hc (q_kx_ty hK ht _ _) (by rw [arrV_size] <;> rfl) rfl rfl hdg (kk _ (nI_toInt (by omega)))
theorem q_acf {σ1 : ST} {H1 : Heap} {z : Nat} {v : Value} (ha : q_kd X a = k) (hk : 20 ≤ k) (e : H1[a]? = some ((arrV (q_gA X (q_et k)) (q_ln X a) (q_av X σ k a)).setSlot z v)) (hup : ∀ g, updV (q_av X σ k a) z v g = q_av X σ1 k a g) : q_cf X σ1 a H1 := by
  refine ⟨fun h => absurd h (by omega), fun _ => ?_⟩
  rw [ha, e, arrV_store]
  congr 2
  funext g
  exact hup g
theorem q_iast (E : q_E p c cc s m args own X) (hI : q_I X n σ0 H0 locs σ H) (ha : q_kd X a = k) (hk : 20 ≤ k ∧ q_et k = 1) {i v : Int32} (h0 : 0 ≤ i.toInt) (h1 : i.toInt < q_ln X a) (hcl : n < q_cl k i.toNatClampNeg) (hv : q_in (q_bn k i.toNatClampNeg) v) (hdg : decode cc pc = .ok (.iastore, 1))
    (kk : ∀ (H1 : Heap) (locs1 : List Loc), q_I X n σ0 H0 locs1 (q_si σ a i.toNatClampNeg v) H1 → W p l e R s m args below meth c H1 locs1 cells slots Q (F0 m (pc + 1) ls rest)) : W p l e R s m args below meth c H locs cells slots Q (F0 m pc ls (.int v :: .int i :: .ref a :: rest)) := by
  obtain ⟨hx, hb, hown, hts, ⟨hK, -, -⟩, -⟩ := E
  have hc := q_arr hI ha hk.1
  have hin : vp_in i (q_ln X a) := vp_in_iff.mpr ⟨h0, h1⟩
  refine W.iast hx hb hc (by rw [hk.2]; exact q_kx_ty hK (t := 1) rfl _ _) (fun q => by cases q) (by rw [arrV_size]; exact hin) rfl rfl hdg fun H1 g1 g2 g3 => ?_
  obtain ⟨i1, i2, i3, i4, i5, i6⟩ := hI
  refine kk H1 _ ⟨i1, i2.up g3 (q_acf ha hk.1 g1 (fun g => ?_)) (fun b g hb => ?_) (fun _ _ _ => rfl) (fun _ _ => rfl), i3.si ha hv, i4, i5.put g2 g3 (by show q_kd X a ≠ 0; omega), i6.tr (q_K.si ha hcl)⟩
  · unfold updV q_av q_si
    rw [hk.2]
    by_cases hg : g = i.toNatClampNeg
    · subst hg; simp
    · simp [hg]
  · show (if b = a ∧ g = i.toNatClampNeg then v else σ.1 b g) = _
    rw [if_neg (fun h => hb h.1)]
theorem q_bast (E : q_E p c cc s m args own X) (hI : q_I X n σ0 H0 locs σ H) (ha : q_kd X a = k) (hk : 20 ≤ k ∧ q_et k = 0) {i v : Int32} (h0 : 0 ≤ i.toInt) (h1 : i.toInt < q_ln X a) (hcl : n < q_cl k i.toNatClampNeg) (hv : q_bn k i.toNatClampNeg = q_full) (hdg : decode cc pc = .ok (.bastore, 1))
    (kk : ∀ (H1 : Heap) (locs1 : List Loc), q_I X n σ0 H0 locs1 (q_si σ a i.toNatClampNeg v.toInt8.toInt32) H1 → W p l e R s m args below meth c H1 locs1 cells slots Q (F0 m (pc + 1) ls rest)) : W p l e R s m args below meth c H locs cells slots Q (F0 m pc ls (.int v :: .int i :: .ref a :: rest)) := by
  obtain ⟨hx, hb, hown, hts, ⟨hK, -, -⟩, -⟩ := E
  have hc := q_arr hI ha hk.1
  have hin : vp_in i (q_ln X a) := vp_in_iff.mpr ⟨h0, h1⟩
  refine W.bast hx hb hc (by rw [hk.2]; exact q_kx_ty hK (t := 0) rfl _ _) (fun q => by cases q) (by rw [arrV_size]; exact hin) rfl rfl hdg fun H1 g1 g2 g3 => ?_
  obtain ⟨i1, i2, i3, i4, i5, i6⟩ := hI
  refine kk H1 _ ⟨i1, i2.up g3 (q_acf ha hk.1 g1 (fun g => ?_)) (fun b g hb => ?_) (fun _ _ _ => rfl) (fun _ _ => rfl), i3.si ha (q_inU hv), i4, i5.put g2 g3 (by show q_kd X a ≠ 0; omega), i6.tr (q_K.si ha hcl)⟩
  · unfold updV q_av q_si
    rw [hk.2]
    by_cases hg : g = i.toNatClampNeg
    · subst hg; simp [narrow]
    · simp [hg]
  · show (if b = a ∧ g = i.toNatClampNeg then v.toInt8.toInt32 else σ.1 b g) = _
    rw [if_neg (fun h => hb h.1)]
theorem q_last (E : q_E p c cc s m args own X) (hI : q_I X n σ0 H0 locs σ H) (ha : q_kd X a = k) (hk : 20 ≤ k ∧ q_et k = 2) {i : Int32} {v : Int64} (h0 : 0 ≤ i.toInt) (h1 : i.toInt < q_ln X a) (hdg : decode cc pc = .ok (.lastore, 1))
    (kk : ∀ (H1 : Heap) (locs1 : List Loc), q_I X n σ0 H0 locs1 (q_sl σ a i.toNatClampNeg v) H1 → W p l e R s m args below meth c H1 locs1 cells slots Q (F0 m (pc + 1) ls rest)) : W p l e R s m args below meth c H locs cells slots Q (F0 m pc ls (.long v :: .int i :: .ref a :: rest)) := by
  obtain ⟨hx, hb, hown, hts, ⟨hK, -, -⟩, -⟩ := E
  have hc := q_arr hI ha hk.1
  have hin : vp_in i (q_ln X a) := vp_in_iff.mpr ⟨h0, h1⟩
  refine W.last hx hb hc (by rw [hk.2]; exact q_kx_ty hK (t := 2) rfl _ _) (fun q => by cases q) (by rw [arrV_size]; exact hin) rfl rfl hdg fun H1 g1 g2 g3 => ?_
  obtain ⟨i1, i2, i3, i4, i5, i6⟩ := hI
  refine kk H1 _ ⟨i1, i2.up g3 (q_acf ha hk.1 g1 (fun g => ?_)) (fun _ _ _ => rfl) (fun b g hb => ?_) (fun _ _ => rfl), i3, i4, i5.put g2 g3 (by show q_kd X a ≠ 0; omega), i6.tr (fun _ _ _ => rfl)⟩
  · unfold updV q_av q_sl
    rw [hk.2]
    by_cases hg : g = i.toNatClampNeg
    · subst hg; simp
    · simp [hg]
  · show (if b = a ∧ g = i.toNatClampNeg then v else σ.2.1 b g) = _
    rw [if_neg (fun h => hb h.1)]
end QR
