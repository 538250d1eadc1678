/-! EXACT ANSWERS: each method's answer and state as a function, piece by piece -/
def q_let {α β : Type} (v : α) (k : α → β) : β := k v
def q_bi {α β : Type} (p : α × ST) (k : α → ST → β) : β := k p.1 p.2
def q_on {β : Type} (r : Option Nat) (A : β) (B : Nat → β) : β := match r with | none => A | some b => B b
/-- by a proof that isn't taken for one by computation: fuel would be counted -/
theorem q_letE {α β : Type} (v : α) (k : α → β) : q_let v k = k v := Eq.trans (Eq.refl (q_let v k)) (Eq.refl (k v))
theorem q_biE {α β : Type} (p : α × ST) (k : α → ST → β) : q_bi p k = k p.1 p.2 := Eq.trans (Eq.refl (q_bi p k)) (Eq.refl (k p.1 p.2))
theorem q_remI (a b : Int32) : a - a / b * b = a % b := by
  apply Int32.toInt_inj.mp
  rw [Int32.toInt_sub, Int32.toInt_mul, Int32.toInt_div, Int.bmod_mul_bmod, Int.sub_bmod_bmod]
  have h := Int.tdiv_mul_add_tmod a.toInt b.toInt
  have e : a.toInt - a.toInt.tdiv b.toInt * b.toInt = (a % b).toInt := by rw [Int32.toInt_mod]; omega
  rw [e]
  exact Int32.toInt_bmod_size _
theorem q_remJ (a b : Int64) : a - a / b * b = a % b := by
  apply Int64.toInt_inj.mp
  rw [Int64.toInt_sub, Int64.toInt_mul, Int64.toInt_div, Int.bmod_mul_bmod, Int.sub_bmod_bmod]
  have h := Int.tdiv_mul_add_tmod a.toInt b.toInt
  have e : a.toInt - a.toInt.tdiv b.toInt * b.toInt = (a % b).toInt := by rw [Int64.toInt_mod]; omega
  rw [e]
  exact Int64.toInt_bmod_size _
theorem q_letX {α β : Type} {v z : α} {k : α → β} {o : β} (h : q_let v k = o) (e : z = v) : k z = o := by
  subst e
  exact h
theorem q_biX {α β : Type} {p : α × ST} {r : α} {σ : ST} {k : α → ST → β} {o : β} (h : q_bi p k = o) (e : (r, σ) = p) : k r σ = o := by
  subst e
  exact h
theorem q_onN {β : Type} {A : β} {B : Nat → β} {o : β} (h : q_on none A B = o) : A = o := h
theorem q_onS {β : Type} {b : Nat} {A : β} {B : Nat → β} {o : β} (h : q_on (some b) A B = o) : B b = o := h
theorem q_ifp {β : Type} {c : Prop} {i : Decidable c} {A B o : β} (h : @ite β c i A B = o) (hc : c) : A = o := by
  rw [if_pos hc] at h
  exact h
theorem q_ifn {β : Type} {c : Prop} {i : Decidable c} {A B o : β} (h : @ite β c i A B = o) (hc : ¬ c) : B = o := by
  rw [if_neg hc] at h
  exact h
def q_len (X : XW) (a : Nat) : Int32 := Int32.ofNat (q_ln X a)
def q_cpyl (σ : ST) (a a0 : Nat) (sp dp z : Int32) : ST := (σ.1, (fun b g => if b = a then va_cpy (σ.2.1 a0) (σ.2.1 a) sp.toNatClampNeg dp.toNatClampNeg z.toNatClampNeg g else σ.2.1 b g, σ.2.2))
/-! which cells a method writes: lists of (kind, place), 99 for all places; ints and longs -/
def q_in2 (L : List (Nat × Nat)) (k f : Nat) : Bool := L.any (fun x => x.1 == k && (x.2 == 99 || x.2 == f))
def q_ow (L M : List (Nat × Nat)) (X : XW) (σ τ : ST) : Prop := (∀ a f, q_in2 L (q_kd X a) f = false → τ.1 a f = σ.1 a f) ∧ ∀ a f, q_in2 M (q_kd X a) f = false → τ.2.1 a f = σ.2.1 a f
theorem q_in2_sub {L L2 : List (Nat × Nat)} (h : L2.all (fun x => L.contains x) = true) {k f : Nat} (hf : q_in2 L k f = false) : q_in2 L2 k f = false := by
  unfold q_in2 at hf ⊢
  rw [List.any_eq_false] at hf ⊢
  intro x hx
  have h1 := List.all_eq_true.mp h x hx
  exact hf x (List.contains_iff_mem.mp h1)
theorem q_ow.rf {L M : List (Nat × Nat)} {X : XW} {σ : ST} : q_ow L M X σ σ := ⟨fun _ _ _ => rfl, fun _ _ _ => rfl⟩
theorem q_ow.call {L M L2 M2 : List (Nat × Nat)} {X : XW} {σ τ τ' : ST} (h : q_ow L M X σ τ) (k : q_ow L2 M2 X τ τ') (s1 : L2.all (fun x => L.contains x) = true) (s2 : M2.all (fun x => M.contains x) = true) : q_ow L M X σ τ' :=
  ⟨fun a f q => (k.1 a f (q_in2_sub s1 q)).trans (h.1 a f q), fun a f q => (k.2 a f (q_in2_sub s2 q)).trans (h.2 a f q)⟩
theorem q_si_ne {τ : ST} {a b f : Nat} {v : Int32} (h : b ≠ a) (g : Nat) : (q_si τ a f v).1 b g = τ.1 b g := by
  show (if b = a ∧ g = f then v else τ.1 b g) = _
  rw [if_neg (fun q => h q.1)]
theorem q_sl_ne {τ : ST} {a b f : Nat} {v : Int64} (h : b ≠ a) (g : Nat) : (q_sl τ a f v).2.1 b g = τ.2.1 b g := by
  show (if b = a ∧ g = f then v else τ.2.1 b g) = _
  rw [if_neg (fun q => h q.1)]
theorem q_ow.si {L M : List (Nat × Nat)} {X : XW} {σ τ τ' : ST} {a k f : Nat} {v : Int32} (h : q_ow L M X σ τ) (e : τ' = q_si τ a f v) (ha : q_kd X a = k) (hw : q_in2 L k f = true) : q_ow L M X σ τ' := by
  subst e
  refine ⟨fun b g q => ?_, fun b g q => h.2 b g q⟩
  show (if b = a ∧ g = f then v else τ.1 b g) = _
  rw [if_neg]
  · exact h.1 b g q
  · rintro ⟨rfl, rfl⟩
    rw [ha, hw] at q
    cases q
theorem q_ow.siR {L M : List (Nat × Nat)} {X : XW} {σ τ τ' : ST} {a f : Nat} {v : Int32} (h : q_ow L M X σ τ) (e : τ' = q_si τ a f v) (ha : q_kd X a = 4 ∨ q_kd X a = 9) (h4 : q_in2 L 4 f = true) (h9 : q_in2 L 9 f = true) : q_ow L M X σ τ' := by
  rcases ha with ha | ha
  · exact h.si e ha h4
  · exact h.si e ha h9
theorem q_ow.sl {L M : List (Nat × Nat)} {X : XW} {σ τ τ' : ST} {a k f : Nat} {v : Int64} (h : q_ow L M X σ τ) (e : τ' = q_sl τ a f v) (ha : q_kd X a = k) (hw : q_in2 M k f = true) : q_ow L M X σ τ' := by
  subst e
  refine ⟨fun b g q => h.1 b g q, fun b g q => ?_⟩
  show (if b = a ∧ g = f then v else τ.2.1 b g) = _
  rw [if_neg]
  · exact h.2 b g q
  · rintro ⟨rfl, rfl⟩
    rw [ha, hw] at q
    cases q
theorem q_ow.st {L M : List (Nat × Nat)} {X : XW} {σ τ τ' : ST} {a v : Nat} (h : q_ow L M X σ τ) (e : τ' = q_st τ a v) : q_ow L M X σ τ' := by
  subst e
  exact h
theorem q_ow.cpy {L M : List (Nat × Nat)} {X : XW} {σ τ τ' : ST} {a a0 k : Nat} {sp dp z : Int32} (h : q_ow L M X σ τ) (e : τ' = q_cpyl τ a a0 sp dp z) (ha : q_kd X a = k) (hw2 : ∀ f, q_in2 M k f = true) : q_ow L M X σ τ' := by
  subst e
  refine ⟨fun b g q => h.1 b g q, fun b g q => ?_⟩
  show (if b = a then _ else τ.2.1 b g) = _
  rw [if_neg]
  · exact h.2 b g q
  · rintro rfl
    rw [ha, hw2] at q
    cases q
section QX
variable {p : Program} {l : Launch} {e : Env} {R : Room} {s : State} {m : MethodId} {args : Array Value} {below : List Frame} {meth : Method} {c : Code} {H : Heap} {locs : List Loc} {cells slots : Nat} {Q : State → Prop} {cc : ByteArray} {own : String} {X : XW} {n : Nat} {σ0 σ : ST} {H0 : Heap} {pc : Nat} {ls : Array Slot} {rest : List Value} {a k : Nat}
theorem q_lcmpX (E : q_E p c cc s m args own X) {x y : Int64} (hdg : decode cc pc = .ok (.lcmp, 1)) (kk : ∀ z : Int32, z = lg_cmp x y → ((z.toInt < 0 ↔ x.toInt < y.toInt) ∧ (0 < z.toInt ↔ y.toInt < x.toInt)) → W p l e R s m args below meth c H locs cells slots Q (F0 m (pc + 1) ls (.int z :: rest))) : W p l e R s m args below meth c H locs cells slots Q (F0 m pc ls (.long y :: .long x :: rest)) := by
  refine W.lcmp E.1 E.2.1 hdg (kk _ rfl ⟨?_, ?_⟩)
  · have h := lg_cmp_lt x y
    rw [Int32.lt_iff_toInt_lt, q_z0, Int64.lt_iff_toInt_lt] at h
    exact h
  · have h := lg_cmp_gt x y
    rw [Int32.lt_iff_toInt_lt, q_z0, Int64.lt_iff_toInt_lt] at h
    exact h
theorem q_alenX (E : q_E p c cc s m args own X) (hI : q_I X n σ0 H0 locs σ H) (ha : q_kd X a = k) (hk : 20 ≤ k) {t : Nat} {ty : FieldType} (he : q_et k = t) (ht : (q_tys X)[t]? = some (q_gA X t, ty)) (hdg : decode cc pc = .ok (.arraylength, 1))
    (kk : ∀ z : Int32, z = q_len X a → z.toInt = (q_ln X a : Int) → W p l e R s m args below meth c H locs cells slots Q (F0 m (pc + 1) ls (.int z :: rest))) : W p l e R s m args below meth c H locs cells slots Q (F0 m pc ls (.ref a :: rest)) := by
  obtain ⟨hx, hb, hown, hts, ⟨hK, -, -⟩, -⟩ := E
  have hc := q_arr hI ha hk
  rw [he] at hc
  have hln := hI.1.2.2.1 a
  exact W.alen (n := Int32.ofNat (q_ln X a)) hx hb hc (q_kx_ty hK ht _ _) (by rw [arrV_size] <;> rfl) rfl rfl hdg (kk _ rfl (nI_toInt (by omega)))
end QX
