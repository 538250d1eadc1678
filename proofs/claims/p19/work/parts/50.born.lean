/-! FROM 50.born.lean.txt -/
section
/-! CONSTRUCTORS: the world grows -/
abbrev DW : Type := va_G × (Nat → ClassId)
def q_tyD (D : DW) : List (ClassId × FieldType) := [(D.2 0, .byte), (D.2 1, .int), (D.2 2, .long), (D.2 3, .object "CheatHeap$Tray"), (D.2 4, .object "CheatHeap$Game")]
def q_w (X : XW) (σ : ST) (H : Heap) : Prop := q_T X ∧ q_R X σ H ∧ q_B X σ ∧ q_TT X σ ∧ y_Fo X ∧ y_IV X σ
def q_nw (h n : Nat) : Nat → Prop := fun q => q = h ∨ n ≤ q
def q_ext (A : Nat → Prop) (X X' : XW) (σ σ' : ST) : Prop := X'.1 = X.1 ∧ q_sk X' = q_sk X ∧ q_sv X' = q_sv X ∧ (∀ a, q_kd X a ≠ 0 → q_kd X' a = q_kd X a ∧ q_ln X' a = q_ln X a ∧ (∀ f, q_rf X' a f = q_rf X a f) ∧ ∀ f, σ'.1 a f = σ.1 a f) ∧ ∀ a, q_kd X' a ≠ 0 → q_kd X a ≠ 0 ∨ A a
theorem q_ext.rf {A : Nat → Prop} {X : XW} {σ : ST} : q_ext A X X σ σ := ⟨rfl, rfl, rfl, fun _ _ => ⟨rfl, rfl, fun _ => rfl, fun _ => rfl⟩, fun _ h => Or.inl h⟩
theorem q_ext.tr {A B : Nat → Prop} {X X1 X2 : XW} {σ σ1 σ2 : ST} (h : q_ext A X X1 σ σ1) (k : q_ext B X1 X2 σ1 σ2) (hb : ∀ a, B a → A a) : q_ext A X X2 σ σ2 := by
  obtain ⟨h1, h2, h3, h4, h5⟩ := h
  obtain ⟨k1, k2, k3, k4, k5⟩ := k
  refine ⟨k1.trans h1, k2.trans h2, k3.trans h3, fun a ha => ?_, fun a ha => ?_⟩
  · obtain ⟨p1, p2, p3, p4⟩ := h4 a ha
    obtain ⟨r1, r2, r3, r4⟩ := k4 a (by rw [p1]; exact ha)
    exact ⟨r1.trans p1, r2.trans p2, fun f => (r3 f).trans (p3 f), fun f => (r4 f).trans (p4 f)⟩
  · rcases k5 a ha with q | q
    · exact h5 a q
    · exact Or.inr (hb a q)
theorem q_ext.kd {A : Nat → Prop} {X X' : XW} {σ σ' : ST} {a k : Nat} (h : q_ext A X X' σ σ') (ha : q_kd X a = k) (hk : k ≠ 0) : q_kd X' a = k := ((h.2.2.2.1 a (by rw [ha]; exact hk)).1).trans ha
theorem q_ext.k0 {A : Nat → Prop} {X X' : XW} {σ σ' : ST} {a : Nat} (h : q_ext A X X' σ σ') (ha : q_kd X a = 0) (hA : ¬ A a) : q_kd X' a = 0 := by
  by_cases q : q_kd X' a = 0
  · exact q
  · rcases h.2.2.2.2 a q with w | w
    · exact absurd ha w
    · exact absurd w hA
def q_xg (X : XW) (h k n : Nat) (rf : Nat → Nat) : XW := (X.1, (fun a => if a = h then k else q_kd X a), (fun a f => if a = h then rf f else q_rf X a f), (fun a => if a = h then n else q_ln X a), q_sk X, q_sv X)
def q_sg (σ : ST) (h : Nat) (iv : Nat → Int32) (lv : Nat → Int64) (t : Nat) : ST := ((fun a f => if a = h then iv f else σ.1 a f), (fun a f => if a = h then lv f else σ.2.1 a f), fun a => if a = h then t else σ.2.2 a)
theorem q_xg_h {X : XW} {h k n : Nat} {rf : Nat → Nat} : q_kd (q_xg X h k n rf) h = k := if_pos rfl
theorem q_xg_ne {X : XW} {h k n a : Nat} {rf : Nat → Nat} (q : a ≠ h) : q_kd (q_xg X h k n rf) a = q_kd X a := if_neg q
theorem q_w.lt {X : XW} {σ : ST} {H : Heap} (w : q_w X σ H) {a : Nat} (ha : q_kd X a ≠ 0) : a < H.size := by
  have c := w.2.1 a ha
  by_cases q : q_kd X a < 20
  · obtain ⟨r, -, cell, h1, -⟩ := c.1 q
    exact (Array.getElem?_eq_some_iff.mp h1).1
  · exact (Array.getElem?_eq_some_iff.mp (c.2 (by omega))).1
theorem q_w.kept {X : XW} {σ : ST} {H H1 : Heap} (w : q_w X σ H) (hq : ∀ a, q_kd X a ≠ 0 → H1[a]? = H[a]?) : q_w X σ H1 := ⟨w.1, fun a ha => (w.2.1 a ha).ne (fun _ => rfl) (fun _ => rfl) rfl (hq a ha), w.2.2⟩
theorem q_w.fresh {X : XW} {σ : ST} {H : Heap} (w : q_w X σ H) {a : Nat} (ha : H.size ≤ a) : q_kd X a = 0 := by
  by_cases q : q_kd X a = 0
  · exact q
  · have := w.lt q
    omega
theorem y_xg {X : XW} {h k n : Nat} {rf : Nat → Nat} : y_ad1 X (q_xg X h k n rf) h k n rf := ⟨fun _ => rfl, fun _ _ => rfl, fun _ => rfl⟩
theorem y_IV.add {X : XW} {σ : ST} {h k n t : Nat} {rf : Nat → Nat} {iv : Nat → Int32} {lv : Nat → Int64} (I : y_IV X σ) (hiv : y_ik k = true → ∀ f, (20 ≤ k ∨ f < 60) → iv f = y_iv k f ∧ lv f = y_il k f) : y_IV (q_xg X h k n rf) (q_sg σ h iv lv t) := by
  intro a ha f hf
  by_cases q : a = h
  · subst q
    rw [q_xg_h] at ha hf ⊢
    have z := hiv ha f hf
    show (if a = a then iv f else σ.1 a f) = _ ∧ (if a = a then lv f else σ.2.1 a f) = _
    rw [if_pos rfl, if_pos rfl]
    exact z
  · rw [q_xg_ne q] at ha hf ⊢
    have z := I a ha f hf
    show (if a = h then iv f else σ.1 a f) = _ ∧ (if a = h then lv f else σ.2.1 a f) = _
    rw [if_neg q, if_neg q]
    exact z
theorem q_w.add {X : XW} {σ : ST} {H : Heap} {h k n t : Nat} {rf : Nat → Nat} {iv : Nat → Int32} {lv : Nat → Int64} (w : q_w X σ H) (h0 : q_kd X h = 0) (hrk : ∀ f, q_rk k f ≠ 0 → q_kd X (rf f) = q_rk k f) (hll : q_ll k ≠ 0 → n = q_ll k) (hn : n < 1000000) (h11 : k = 11 → q_ln X (rf 4) = 900 ∧ q_kd X (rf 4) ≠ 0) (hB : ∀ f, q_in (q_bn k f) (iv f)) (ht : k = 4 ∨ k = 9 → q_kd X t = 22) (hc : q_cf (q_xg X h k n rf) (q_sg σ h iv lv t) h H) (hup : ∀ f, q_rk k f ≠ 0 → h < rf f) (hinj : ∀ f g, q_rk k f ≠ 0 → q_rk k g ≠ 0 → rf f = rf g → f = g) (hroot : ∀ f, q_rk k f ≠ 0 → y_root X (rf f)) (hrow : ∀ f, q_rk k f = 5 → q_ln X (q_rf X (rf f) 0) = y_rl k f) (hiv : y_ik k = true → ∀ f, (20 ≤ k ∨ f < 60) → iv f = y_iv k f ∧ lv f = y_il k f) : q_w (q_xg X h k n rf) (q_sg σ h iv lv t) H := by
  have hT := w.1
  obtain ⟨⟨t1, t2, t3, t4⟩, wR, wB, wT, wF, wI⟩ := w
  have ne : ∀ a, q_kd X a ≠ 0 → a ≠ h := fun a ha e => ha (by rw [e]; exact h0)
  refine ⟨⟨fun a f hf => ?_, fun a ha => ?_, fun a => ?_, fun a ha => ?_⟩, fun a ha => ?_, fun a f => ?_, fun a ha => ?_, wF.add hT y_xg h0 hrk hup hinj hroot hrow, wI.add hiv⟩
  · by_cases q : a = h
    · subst q
      rw [q_xg_h] at hf ⊢
      show q_kd (q_xg X a k n rf) (if a = a then rf f else q_rf X a f) = _
      rw [if_pos rfl]
      have z := hrk f hf
      rw [q_xg_ne (ne _ (by rw [z]; exact hf))]
      exact z
    · rw [q_xg_ne q] at hf ⊢
      show q_kd (q_xg X h k n rf) (if a = h then rf f else q_rf X a f) = _
      rw [if_neg q]
      have z := t1 a f hf
      rw [q_xg_ne (ne _ (by rw [z]; exact hf))]
      exact z
  · show (if a = h then n else q_ln X a) = _
    by_cases q : a = h
    · subst q
      rw [q_xg_h] at ha ⊢
      rw [if_pos rfl]
      exact hll ha
    · rw [q_xg_ne q] at ha ⊢
      rw [if_neg q]
      exact t2 a ha
  · show (if a = h then n else q_ln X a) < _
    by_cases q : a = h
    · rw [if_pos q]; exact hn
    · rw [if_neg q]; exact t3 a
  · by_cases q : a = h
    · subst q
      rw [q_xg_h] at ha
      have z := h11 ha
      show (if (if a = a then rf 4 else q_rf X a 4) = a then n else q_ln X (if a = a then rf 4 else q_rf X a 4)) = 900
      rw [if_pos rfl, if_neg (ne _ z.2)]
      exact z.1
    · rw [q_xg_ne q] at ha
      show (if (if a = h then rf 4 else q_rf X a 4) = h then n else q_ln X (if a = h then rf 4 else q_rf X a 4)) = 900
      rw [if_neg q]
      have z := t1 a 4 (by rw [ha]; decide)
      rw [if_neg (ne _ (by rw [z, ha]; decide))]
      exact t4 a ha
  · by_cases q : a = h
    · rw [q]; exact hc
    · rw [q_xg_ne q] at ha
      have c := wR a ha
      have e1 : q_fvk (q_xg X h k n rf) (q_sg σ h iv lv t) (q_kd X a) a = q_fvk X σ (q_kd X a) a := by
        funext f
        unfold q_fvk
        show (match q_ft (q_kd X a) f with | 0 => Value.int (if a = h then iv f else σ.1 a f) | 1 => .long (if a = h then lv f else σ.2.1 a f) | 2 => .ref (if a = h then rf f else q_rf X a f) | _ => .ref (if a = h then t else σ.2.2 a)) = _
        rw [if_neg q, if_neg q, if_neg q, if_neg q]
        rfl
      have e2 : q_av (q_xg X h k n rf) (q_sg σ h iv lv t) (q_kd X a) a = q_av X σ (q_kd X a) a := by
        funext f
        unfold q_av
        show (match q_et (q_kd X a) with | 0 => Value.int (if a = h then iv f else σ.1 a f) | 1 => .int (if a = h then iv f else σ.1 a f) | 2 => .long (if a = h then lv f else σ.2.1 a f) | _ => .ref (if a = h then rf f else q_rf X a f)) = _
        rw [if_neg q, if_neg q, if_neg q]
        rfl
      have e3 : q_ln (q_xg X h k n rf) a = q_ln X a := if_neg q
      refine ⟨fun hk => ?_, fun hk => ?_⟩
      · rw [q_xg_ne q] at hk ⊢
        rw [e1]
        exact c.1 hk
      · rw [q_xg_ne q] at hk ⊢
        rw [e2, e3]
        exact c.2 hk
  · show q_in _ (if a = h then iv f else σ.1 a f)
    by_cases q : a = h
    · rw [if_pos q, q, q_xg_h]; exact hB f
    · rw [if_neg q, q_xg_ne q]; exact wB a f
  · show q_kd (q_xg X h k n rf) (if a = h then t else σ.2.2 a) = 22
    by_cases q : a = h
    · rw [if_pos q]
      rw [q, q_xg_h] at ha
      have z := ht ha
      rw [q_xg_ne (ne _ (by rw [z]; decide))]
      exact z
    · rw [if_neg q]
      rw [q_xg_ne q] at ha
      have z := wT a ha
      rw [q_xg_ne (ne _ (by rw [z]; decide))]
      exact z
theorem q_ext.add {X : XW} {σ : ST} {h k n t : Nat} {rf : Nat → Nat} {iv : Nat → Int32} {lv : Nat → Int64} (h0 : q_kd X h = 0) : q_ext (fun a => a = h) X (q_xg X h k n rf) σ (q_sg σ h iv lv t) := by
  refine ⟨rfl, rfl, rfl, fun a ha => ?_, fun a ha => ?_⟩
  · have q : a ≠ h := fun e => ha (by rw [e]; exact h0)
    exact ⟨q_xg_ne q, if_neg q, fun f => if_neg q, fun f => if_neg q⟩
  · by_cases q : a = h
    · exact Or.inr q
    · rw [q_xg_ne q] at ha
      exact Or.inl ha
/-- an object's fields, as the world and the state say -/
theorem q_fvg {X : XW} {σ : ST} {h k n t : Nat} {rf : Nat → Nat} {iv : Nat → Int32} {lv : Nat → Int64} (f : Nat) : q_fvk (q_xg X h k n rf) (q_sg σ h iv lv t) k h f = (match q_ft k f with | 0 => Value.int (iv f) | 1 => .long (lv f) | 2 => .ref (rf f) | _ => .ref t) := by
  unfold q_fvk
  show (match q_ft k f with | 0 => Value.int (if h = h then iv f else σ.1 h f) | 1 => .long (if h = h then lv f else σ.2.1 h f) | 2 => .ref (if h = h then rf f else q_rf X h f) | _ => .ref (if h = h then t else σ.2.2 h)) = _
  rw [if_pos rfl, if_pos rfl, if_pos rfl, if_pos rfl]
theorem t_lt {o : Nat} {cC : ClassId} {N : Nat} {iS : Nat → Nat} {H : Heap} {V : Nat → Value} (h : t_OB o cC N iS H V) : o < H.size := by
  obtain ⟨cell, h1, -⟩ := h
  exact (Array.getElem?_eq_some_iff.mp h1).1
theorem t_cell {o : Nat} {cC : ClassId} {N : Nat} {iS : Nat → Nat} {H : Heap} {V : Nat → Value} (h : t_OB o cC N iS H V) : ∃ cv : Cell, H[o]? = some cv ∧ cv.cls = cC ∧ cv.vm = .none := by
  obtain ⟨cell, h1, h2, h3, -⟩ := h
  exact ⟨cell, h1, h2, h3⟩
theorem q_rk_hi {k f : Nat} (h : 40 ≤ f) : q_rk k f = 0 := by
  unfold q_rk
  split <;> first | rfl | (split <;> first | rfl | omega)
theorem q_bn_hi (k f : Nat) (h : 40 ≤ f) : (q_bn k f).1 ≤ 0 ∧ 0 ≤ (q_bn k f).2 := by
  unfold q_bn
  split <;> first | decide | (split <;> first | decide | omega)
theorem q_hB {k : Nat} {L : List Int32} (h : ∀ f, f < 40 → (q_bn k f).1 ≤ (L.getD f 0).toInt ∧ (L.getD f 0).toInt ≤ (q_bn k f).2) (hl : L.length ≤ 40) (f : Nat) : q_in (q_bn k f) (L.getD f 0) := by
  by_cases q : f < 40
  · exact h f q
  · have e : L.getD f 0 = 0 := by
      rw [List.getD_eq_getElem?_getD, List.getElem?_eq_none (by omega)]
      rfl
    rw [e]
    exact q_bn_hi k f (by omega)
theorem q_hrk {X : XW} {k : Nat} {L : List Nat} (h : ∀ f, f < 40 → q_rk k f ≠ 0 → q_kd X (L.getD f 0) = q_rk k f) (f : Nat) (hf : q_rk k f ≠ 0) : q_kd X (L.getD f 0) = q_rk k f := by
  by_cases q : f < 40
  · exact h f q hf
  · exact absurd (q_rk_hi (by omega)) hf
theorem raw_lt {H : Heap} {r : Nat} {c : Cell} (h : H[r]? = some c) : r < H.size := (Array.getElem?_eq_some_iff.mp h).1
theorem q_cfO {D : DW} {X : XW} {σ : ST} {H : Heap} {h k ci N t : Nat} {C : String} {T : u_T} {rf : Nat → Nat} {iv : Nat → Int32} {lv : Nat → Int64} {V : Nat → Value} (hD : X.1 = D) (hk : k = ci + 1 ∧ k < 20) (hc : vwCl[ci]? = some (C, T, N)) (ob : t_OB h (D.1.1 ci) N (D.1.2 ci) H V) (hv : ∀ f, f < N → V f = (match q_ft k f with | 0 => Value.int (iv f) | 1 => .long (lv f) | 2 => .ref (rf f) | _ => .ref t)) : q_cf (q_xg X h k 0 rf) (q_sg σ h iv lv t) h H := by
  obtain ⟨rfl, h20⟩ := hk
  subst hD
  refine ⟨fun _ => ?_, fun q => absurd q (by rw [q_xg_h]; omega)⟩
  rw [q_xg_h]
  refine ⟨_, hc, ?_⟩
  refine t_OB.to (V := V) ob (fun f hf => ?_)
  rw [hv f hf, q_fvg]
def q_avm (t0 : Nat) (iv : Nat → Int32) (lv : Nat → Int64) (rf : Nat → Nat) (j : Nat) : Value := match t0 with | 0 => Value.int (iv j) | 1 => .int (iv j) | 2 => .long (lv j) | _ => .ref (rf j)
theorem q_cfA {D : DW} {X : XW} {σ : ST} {H : Heap} {h k n t t0 : Nat} {rf : Nat → Nat} {iv : Nat → Int32} {lv : Nat → Int64} {g : Nat → Value} (hD : X.1 = D) (hk : 20 ≤ k) (he : q_et k = t0) (ha : H[h]? = some (arrV (D.2 t0) n g)) (hv : ∀ j, g j = q_avm t0 iv lv rf j) : q_cf (q_xg X h k n rf) (q_sg σ h iv lv t) h H := by
  subst hD
  subst he
  refine ⟨fun q => absurd q (by rw [q_xg_h]; omega), fun _ => ?_⟩
  have e3 : q_ln (q_xg X h k n rf) h = n := if_pos rfl
  have e4 : q_av (q_xg X h k n rf) (q_sg σ h iv lv t) k h = g := by
    funext j
    rw [hv j]
    unfold q_av q_avm
    show (match q_et k with | 0 => Value.int (if h = h then iv j else σ.1 h j) | 1 => .int (if h = h then iv j else σ.1 h j) | 2 => .long (if h = h then lv j else σ.2.1 h j) | _ => .ref (if h = h then rf j else q_rf X h j)) = _
    rw [if_pos rfl, if_pos rfl, if_pos rfl]
  rw [q_xg_h, e3, e4]
  exact ha
theorem y_rlx {A : Nat → Prop} {X X' : XW} {σ σ' : ST} {c n : Nat} (hx : q_ext A X X' σ σ') (T : q_T X) (hc : q_kd X c = 5) (h : q_ln X (q_rf X c 0) = n) : q_ln X' (q_rf X' c 0) = n := by
  have k20 : q_kd X (q_rf X c 0) = 20 := (T.1 c 0 (by rw [hc]; decide)).trans (by rw [hc]; rfl)
  have e1 := (hx.2.2.2.1 c (by rw [hc]; decide)).2.2.1 0
  have e2 := (hx.2.2.2.1 (q_rf X c 0) (by rw [k20]; decide)).2.1
  rw [e1, e2]
  exact h
/-! rows of a constructor -/
def q_E0 (p : Program) (c : Code) (cc : ByteArray) (s : State) (m : MethodId) (args : Array Value) (own : String) (D : DW) : Prop :=
  p.tables.exec = Jvm.exec ∧ c.code = cc ∧ s.vm.findClass own = some m.cls ∧ (∀ w ∈ q_tbl, w.before args s = true) ∧ va_K D.1 vwCl (q_tyD D) s ∧ q_NW s ∧ va_AO "CheatHeap$Tray" s ∧ va_AO "CheatHeap$Game" s
def q_K0 (D : DW) (U : State) : Prop := va_K D.1 vwCl (q_tyD D) U ∧ q_NW U ∧ va_AO "CheatHeap$Tray" U ∧ va_AO "CheatHeap$Game" U
section QN
variable {p : Program} {l : Launch} {e : Env} {R : Room} {s : State} {m : MethodId} {args : Array Value} {below : List Frame} {meth : Method} {c : Code} {H : Heap} {locs : List Loc} {cells slots : Nat} {Q : State → Prop} {cc : ByteArray} {own : String} {D : DW} {A : Nat → Prop} {H0 : Heap} {pc : Nat} {ls : Array Slot} {rest : List Value} {h : Nat}
/-- new -/
theorem b_new (E : q_E0 p c cc s m args own D) (hS : va_S A H0 H locs) {C : String} {T : u_T} {N ci index : Nat} (hcl : Cond.classLink own index C ∈ q_tbl) (hinst : Cond.instantiable C N ∈ q_tbl) (hini : Cond.initialized C ∈ q_tbl) (hc : vwCl[ci]? = some (C, T, N)) (hin : ∀ w ∈ u_ws C T N, w ∈ q_tbl) (ty : Nat → FieldType) (hty : ∀ k, k < N → parseFieldDescriptor (T k).2.2.1 = some (ty k)) (hcells : cells + 1 ≤ R.cells) (hslots : slots + N ≤ R.slots) (hdg : decode cc pc = .ok (.new index, 3))
    (kk : ∀ (q : Nat) (H1 : Heap), q = H.size → H1.size = H.size + 1 → (∀ a, a < H.size → H1[a]? = H[a]?) → t_OB q (D.1.1 ci) N (D.1.2 ci) H1 (fun k => defaultValue (ty k)) → va_S A H0 H1 locs → W p l e R s m args below meth c H1 locs (cells + 1) (slots + N) Q (F0 m (pc + 3) ls (.ref q :: rest))) : W p l e R s m args below meth c H locs cells slots Q (F0 m pc ls rest) := by
  obtain ⟨hx, hb, hown, hts, hK, -⟩ := E
  have hKn := hK.1 ci _ hc
  refine W.newcK hx hb hown (hts _ hcl) (hts _ hinst) (hts _ hini) rfl hdg hcells hslots hKn.2.1 rfl fun H1 kC hkC e1 z1 o1 => ?_
  exact kk H.size H1 rfl z1 o1 (u_born ty hts hin hKn hkC e1 hty) ⟨Nat.le_trans hS.1 (by omega), fun x h1 h2 => (o1 x (Nat.lt_of_lt_of_le h1 hS.1)).trans (hS.2.1 x h1 h2), hS.2.2⟩
/-- newarray -/
theorem b_newa (E : q_E0 p c cc s m args own D) (hS : va_S A H0 H locs) {atype : ArrayType} (harr : Cond.arrayClass (newarray.typeOf atype) ∈ q_tbl) {t : Nat} (ht : (q_tyD D)[t]? = some (D.2 t, newarray.typeOf atype)) (hnm : ∀ U cA, va_RA U cA (newarray.typeOf atype) = (U.vm.findClass ("[" ++ (newarray.typeOf atype).toString) = some cA)) {n : Int32} {N' : Nat} (hn : 0 ≤ n.toInt) (hN : n.toNatClampNeg = N') (hbytes : N' * componentBytes (newarray.typeOf atype) ≤ 536870912) (hcells : cells + 1 ≤ R.cells) (hslots : slots + N' ≤ R.slots) (hdg : decode cc pc = .ok (.newarray atype, 2))
    (kk : ∀ (q : Nat) (H1 : Heap), q = H.size → H1.size = H.size + 1 → (∀ a, a < H.size → H1[a]? = H[a]?) → H1[q]? = some (arrV (D.2 t) N' (fun _ => defaultValue (newarray.typeOf atype))) → va_S A H0 H1 locs → W p l e R s m args below meth c H1 locs (cells + 1) (slots + N') Q (F0 m (pc + 2) ls (.ref q :: rest))) : W p l e R s m args below meth c H locs cells slots Q (F0 m pc ls (.int n :: rest)) := by
  obtain ⟨hx, hb, hown, hts, hK, -⟩ := E
  refine va_newaK hx hb (hts _ harr) rfl hdg rfl (fun q => by rw [Int32.lt_iff_toInt_lt, q_z0] at q; omega) hN hbytes hcells hslots rfl fun H1 cA e1 z1 o1 hAr hNm => ?_
  have w := (hK.2 t _ ht).2
  rw [hnm] at w
  have e : cA = D.2 t := Option.some.inj (hNm.symm.trans w)
  rw [e] at e1
  exact kk H.size H1 rfl z1 o1 e1 ⟨Nat.le_trans hS.1 (by omega), fun x h1 h2 => (o1 x (Nat.lt_of_lt_of_le h1 hS.1)).trans (hS.2.1 x h1 h2), hS.2.2⟩
/-- anewarray -/
theorem b_newq (E : q_E0 p c cc s m args own D) (hS : va_S A H0 H locs) {C : String} {index t : Nat} (hcl : Cond.classLink own index C ∈ q_tbl) (hao : va_AO C s) (ht : (q_tyD D)[t]? = some (D.2 t, .object C)) {n : Int32} {N' : Nat} (hn : 0 ≤ n.toInt) (hN : n.toNatClampNeg = N') (hbytes : N' * 4 ≤ 536870912) (hcells : cells + 1 ≤ R.cells) (hslots : slots + N' ≤ R.slots) (hdg : decode cc pc = .ok (.anewarray index, 3))
    (kk : ∀ (q : Nat) (H1 : Heap), q = H.size → H1.size = H.size + 1 → (∀ a, a < H.size → H1[a]? = H[a]?) → H1[q]? = some (arrV (D.2 t) N' (fun _ => .null)) → va_S A H0 H1 locs → W p l e R s m args below meth c H1 locs (cells + 1) (slots + N') Q (F0 m (pc + 3) ls (.ref q :: rest))) : W p l e R s m args below meth c H locs cells slots Q (F0 m pc ls (.int n :: rest)) := by
  obtain ⟨hx, hb, hown, hts, hK, -⟩ := E
  subst hN
  refine W.anew hx hb hown (hts _ hcl) (va_AO.use hao) rfl hdg rfl (fun q => by rw [Int32.lt_iff_toInt_lt, q_z0] at q; omega) hbytes hcells hslots fun cA kA comp f1 f2 f3 f4 => ?_
  obtain ⟨kA', comp', -, -, -, w4⟩ := (hK.2 t _ ht).2
  have e : cA = D.2 t := Option.some.inj (f1.symm.trans w4)
  generalize hH1 : H.push ({ cls := cA, slots := Array.replicate n.toNatClampNeg .null, vm := .none } : Cell) = H1
  have z1 : H1.size = H.size + 1 := by rw [← hH1, Array.size_push]
  have e1 : H1[H.size]? = some (arrV cA n.toNatClampNeg (fun _ => .null)) := by rw [← hH1, Array.getElem?_push_size, ← arrV_new]
  have o1 : ∀ q : Nat, q < H.size → H1[q]? = H[q]? := fun q hq => by rw [← hH1, Array.getElem?_push, if_neg (Nat.ne_of_lt hq)]
  rw [e] at e1
  exact kk H.size H1 rfl z1 o1 e1 ⟨Nat.le_trans hS.1 (by omega), fun x h1 h2 => (o1 x (Nat.lt_of_lt_of_le h1 hS.1)).trans (hS.2.1 x h1 h2), hS.2.2⟩
/-- putfield of an object that is being made -/
theorem b_put (E : q_E0 p c cc s m args own D) (hS : va_S A H0 H locs) (hAh : A h) (hin2 : meth.name = "<init>") {ci N index f : Nat} {C ref : String} {T : u_T} {ty0 : Nat → FieldType} {V : Nat → Value} {v : Value} (ob : t_OB h (D.1.1 ci) N (D.1.2 ci) H V) (hc : vwCl[ci]? = some (C, T, N)) (hin : ∀ w ∈ u_ws C T N, w ∈ q_tbl) (hty : ∀ k, k < N → parseFieldDescriptor (T k).2.2.1 = some (ty0 k)) (hnm : ∀ a, a < N → ∀ b, b < N → a ≠ b → (T a).2.1 ≠ (T b).2.1) (hf : f < N)
    (hlink : Cond.fieldLink own index ref (T f).2.1 (T f).2.2.1 ∈ q_tbl) (hsame : ref = (T f).1) (hdecl : (T f).2.2.2 = true → (T f).1 = own) {ty : FieldType} (hd : parseFieldDescriptor (T f).2.2.1 = some ty) (hn : narrow ty v = v) (hfit : fits ty v = true) (hdg : decode cc pc = .ok (.putfield index, 3))
    (kk : ∀ (H1 : Heap) (locs1 : List Loc), H1.size = H.size → (∀ a, a ≠ h → H1[a]? = H[a]?) → t_OB h (D.1.1 ci) N (D.1.2 ci) H1 (updV V f v) → va_S A H0 H1 locs1 → W p l e R s m args below meth c H1 locs1 cells slots Q (F0 m (pc + 3) ls rest)) : W p l e R s m args below meth c H locs cells slots Q (F0 m pc ls (v :: .ref h :: rest)) := by
  obtain ⟨hx, hb, hown, hts, hK, -⟩ := E
  obtain ⟨cell, q1, q2, q3, q4⟩ := ob
  have hap := va_apart (own := own) hts hin ty0 hty hnm hK hc
  obtain ⟨hSl, hfc, kC, hkC, hkind⟩ := hK.1 ci _ hc
  obtain ⟨cf, kf, fi, fd, hi, hsl⟩ := hSl f hf
  have hi' : s.fieldFound? ref (T f).2.1 (T f).2.2.1 = some (cf, kf, fi, fd) := by rw [hsame]; exact hi
  have hlay := hts _ (hin _ (u_in_lay hf))
  have hst := (u_facts hfc hkC (u_lays hts hin hf) hi).1
  unfold u_lay at hlay
  by_cases hfin : (T f).2.2.2 = true
  · rw [if_pos hfin] at hlay
    have hcf : m.cls = cf := by
      obtain ⟨_, _, c', _, _, _, -, -, hf', -, -, -, hown2, -⟩ := Cond.laysFinal_spec hlay
      have e1 : c' = cf := by have := hi.symm.trans hf'; simp at this; exact this.1.symm
      rw [hdecl hfin] at hown2
      rw [← e1]; exact Option.some.inj (hown.symm.trans hown2)
    have h6 := u_fits hfc hkC hkind (Or.inr hlay) hi hd hn hfit
    refine W.putFinK hx hb hown (hts _ hlink) hi' hst hcf hin2 (by rw [q2]; exact h6) q1 q3 (by rw [hsl]; exact k2_hasslot (q4 f hf)) rfl rfl hdg fun H' g1 g2 g3 => ?_
    rw [hsl] at g1 ⊢
    exact kk H' _ g2 g3 ⟨_, g1, q2, q3, t_set q4 hap hf v⟩ (hS.put g2 g3 hAh)
  · rw [if_neg hfin] at hlay
    have h6 := u_store hfc hkC hkind hlay hi hd hn hfit
    refine W.putK hx hb (f := fd) ⟨hown, hts _ hlink, ⟨_, _, _, hi'⟩, hst⟩ (by rw [q2]; exact h6) q1 q3 (by rw [hsl]; exact k2_hasslot (q4 f hf)) rfl rfl hdg fun H' g1 g2 g3 => ?_
    rw [hsl] at g1 ⊢
    exact kk H' _ g2 g3 ⟨_, g1, q2, q3, t_set q4 hap hf v⟩ (hS.put g2 g3 hAh)
/-- getfield of an object that is being made -/
theorem b_get (E : q_E0 p c cc s m args own D) {ci N index f : Nat} {C ref : String} {T : u_T} {V : Nat → Value} {v : Value} (ob : t_OB h (D.1.1 ci) N (D.1.2 ci) H V) (hc : vwCl[ci]? = some (C, T, N)) (hin : ∀ w ∈ u_ws C T N, w ∈ q_tbl) (hf : f < N) (hlink : Cond.fieldLink own index ref (T f).2.1 (T f).2.2.1 ∈ q_tbl) (hsame : ref = (T f).1) (hv : V f = v) (hdg : decode cc pc = .ok (.getfield index, 3))
    (kk : W p l e R s m args below meth c H locs cells slots Q (F0 m (pc + 3) ls (v :: rest))) : W p l e R s m args below meth c H locs cells slots Q (F0 m pc ls (.ref h :: rest)) := by
  obtain ⟨hx, hb, hown, hts, hK, -⟩ := E
  obtain ⟨cell, q1, q2, q3, q4⟩ := ob
  obtain ⟨hSl, hfc, kC, hkC, hkind⟩ := hK.1 ci _ hc
  obtain ⟨cf, kf, fi, fd, hi, hsl⟩ := hSl f hf
  have hi' : s.fieldFound? ref (T f).2.1 (T f).2.2.1 = some (cf, kf, fi, fd) := by rw [hsame]; exact hi
  have hst := (u_facts hfc hkC (u_lays hts hin hf) hi).1
  refine W.getf hx hb hown (hts _ hlink) hi' hst q1 (by rw [q3]; exact fun h => by cases h) (v := v) ?_ rfl rfl hdg kk
  rw [hsl, q4 f hf, hv]
/-- a cell of an array of ints that is being made -/
theorem b_iast (E : q_E0 p c cc s m args own D) (hS : va_S A H0 H locs) {r n : Nat} (hAr : A r) {g : Nat → Int32} (hr : H[r]? = some (arrV (D.2 1) n (fun j => Value.int (g j)))) {i v : Int32} (h0 : 0 ≤ i.toInt) (h1 : i.toInt < n) (hdg : decode cc pc = .ok (.iastore, 1))
    (kk : ∀ (H1 : Heap) (locs1 : List Loc), H1.size = H.size → (∀ a, a ≠ r → H1[a]? = H[a]?) → H1[r]? = some (arrV (D.2 1) n (fun j => Value.int (if j = i.toNatClampNeg then v else g j))) → va_S A H0 H1 locs1 → W p l e R s m args below meth c H1 locs1 cells slots Q (F0 m (pc + 1) ls rest)) : W p l e R s m args below meth c H locs cells slots Q (F0 m pc ls (.int v :: .int i :: .ref r :: rest)) := by
  obtain ⟨hx, hb, hown, hts, hK, -⟩ := E
  have hin : vp_in i n := vp_in_iff.mpr ⟨h0, h1⟩
  refine W.iast hx hb hr ((hK.2 1 _ rfl).1 _ _) (fun q => by cases q) (by rw [arrV_size]; exact hin) rfl rfl hdg fun H1 g1 g2 g3 => ?_
  refine kk H1 _ g2 g3 ?_ (hS.put g2 g3 hAr)
  rw [g1, arrV_store]
  congr 2
  funext j
  unfold updV
  by_cases hj : j = i.toNatClampNeg
  · rw [if_pos hj, if_pos hj]
  · rw [if_neg hj, if_neg hj]
/-- a place of an array of objects that is being made -/
theorem b_aast (E : q_E0 p c cc s m args own D) (hS : va_S A H0 H locs) {r n t ci N v : Nat} {C : String} {T : u_T} (hAr : A r) (ht : (q_tyD D)[t]? = some (D.2 t, .object C)) (hc : vwCl[ci]? = some (C, T, N)) {g : Nat → Value} (hr : H[r]? = some (arrV (D.2 t) n g)) (hv : ∃ cv : Cell, H[v]? = some cv ∧ cv.cls = D.1.1 ci ∧ cv.vm = .none) {i : Int32} (h0 : 0 ≤ i.toInt) (h1 : i.toInt < n) (hdg : decode cc pc = .ok (.aastore, 1))
    (kk : ∀ (H1 : Heap) (locs1 : List Loc), H1.size = H.size → (∀ a, a ≠ r → H1[a]? = H[a]?) → H1[r]? = some (arrV (D.2 t) n (updV g i.toNatClampNeg (.ref v))) → va_S A H0 H1 locs1 → W p l e R s m args below meth c H1 locs1 cells slots Q (F0 m (pc + 1) ls rest)) : W p l e R s m args below meth c H locs cells slots Q (F0 m pc ls (.ref v :: .int i :: .ref r :: rest)) := by
  obtain ⟨hx, hb, hown, hts, hK, -⟩ := E
  obtain ⟨kA, comp, w1, w2, w3, w4⟩ := (hK.2 t _ ht).2
  obtain ⟨hSl, hfc, kC, hkC, hkind⟩ := hK.1 ci _ hc
  obtain ⟨cv, v1, v2, v3⟩ := hv
  have e : comp = D.1.1 ci := Option.some.inj (w3.symm.trans hfc)
  refine W.aast hx hb hr (fun q z => by cases z) (fun z => by cases z) w1 w2 rfl (by rw [e]; exact hkC) ⟨fun q => by rw [Int32.lt_iff_toInt_lt, q_z0] at q; omega, by rw [arrV_size, q_cn]; omega⟩ v1 (fun q z => by rw [v3] at z; cases z) (by rw [v2]; exact hkC) (by rw [v2, e]; exact va_asg _ _) rfl rfl hdg fun H1 g1 g2 g3 => ?_
  refine kk H1 _ g2 g3 ?_ (hS.put g2 g3 hAr)
  rw [g1, arrV_store]
end QN
/-! contracts of constructors -/
abbrev q_PN (D : DW) (X : XW) (σ : ST) (h sz ci N : Nat) (V : Nat → Value) (av : List Value) : Array Value → State → Prop := va_Pc av (fun U => U.heap.size = sz ∧ X.1 = D ∧ q_w X σ U.heap ∧ q_kd X h = 0 ∧ t_OB h (D.1.1 ci) N (D.1.2 ci) U.heap V ∧ q_K0 D U)
abbrev q_QN (X : XW) (σ : ST) (h sz k : Nat) (post : XW → ST → Prop) : Array Value → State → Outcome → State → Prop := va_Qv (S := XW × ST) (fun u => q_ext (q_nw h sz) X u.1 σ u.2 ∧ q_kd u.1 h = k ∧ post u.1 u.2) (fun u t => q_w u.1 u.2 t.heap) (q_nw h sz)
theorem q_K0.alike {D : DW} {u U : State} (hW : u.vm.Alike U.vm) (hN : q_NW U) (h : q_K0 D u) (a1 : va_AO "CheatHeap$Tray" U) (a2 : va_AO "CheatHeap$Game" U) : q_K0 D U := ⟨va_K.moved hW h.1, hN, a1, a2⟩
theorem q_blindN {D : DW} {X : XW} {σ : ST} {h sz ci N : Nat} {V : Nat → Value} {av : List Value} : FrameBlind (q_PN D X σ h sz ci N V av) := by
  rintro a U g mk ⟨h1, hs, hD, hw, h0, hO, hK, hN, hA, hA2⟩
  exact ⟨h1, hs, hD, hw, h0, hO, va_K.moved (u := U) (U := U.calling g mk a) (Vm.Alike.refl U.vm) hK, fun r hr => va_Nw.same (u := U) (U := U.calling g mk a) rfl rfl (hN r hr), hA, hA2⟩
theorem b_met {l : Launch} {y : MethodName} {cc : ByteArray} {mL : Nat} {rm : Room} {av : List Value} {D : DW} {X : XW} {σ : ST} {own : String} {h sz ci N mc ms : Nat} {V : Nat → Value} {Qc : Array Value → State → Outcome → State → Prop} (hy : plainFor y = true) (ho : y.cls = own) (hyn : y.name = "<init>") (hlen : (lg_sl av).length ≤ mL)
    (body : ∀ (p : Program) (e : Env) (s : State) (m : MethodId) (below : List Frame) (meth : Method) (c : Code), q_E0 p c cc s m av.toArray own D → c.maxLocals = mL → meth.sig.returnType = none → meth.locks = false → meth.name = "<init>" → s.heap.size = sz → X.1 = D → q_w X σ s.heap → q_kd X h = 0 → t_OB h (D.1.1 ci) N (D.1.2 ci) s.heap V → ∀ ls : Array Slot, lv_has ls mL (lv_args 0 av) → W p l e rm s m av.toArray below meth c s.heap [] 0 0 (MQ below Qc av.toArray s mc ms (q_nw h sz)) (F0 m 0 ls [])) :
    Met l y (q_ws y cc mL none) rm (q_PN D X σ h sz ci N V av) Qc mc ms (q_nw h sz) := by
  refine MetFree.of_bodySF (code := cc) (maxLocals := mL) (ret := none) hy ?_ ?_
  · intro args s m h hn
    obtain ⟨meth, c, h1, h2, h3, h4, h5, h6, -, -⟩ := Cond.code_spec hn (atoms_spec (ws := q_ws y cc mL none) h _ List.mem_cons_self)
    exact ⟨meth, c, h1, h2, h3, h4, h5, h6⟩
  intro p e s m args below meth c s₁ B hml hv _
  obtain ⟨rfl, hs, hD, hw, h0, hO, hK, hN, hA, hA2⟩ := hv
  have hh0 : s₁.heap = s.heap := by rw [B.state]; rfl
  suffices hW9 : W p l e rm s m av.toArray below meth c s.heap [] 0 0 (MQ below Qc av.toArray s mc ms (q_nw h sz)) (entryFrame m av.toArray mL) by
    obtain ⟨t, a1, o, b1, b2, b3⟩ := hW9 s₁ hh0 (Stand.of_body B)
    exact ⟨t, o, a1, b1, b2, ⟨b3.1, b3.2⟩⟩
  have hts := atoms_spec (ws := q_ws y cc mL none) B.pre
  have hown : s.vm.findClass y.cls = some m.cls := findClass_of_methodNamed B.named
  rw [ho] at hown
  have hnm : meth.name = "<init>" := (name_of_methodNamed B.named B.method).1.trans hyn
  have hl := lv_entry av hlen
  rw [lg_entry_eq]
  generalize (lg_sl av ++ List.replicate (mL - (lg_sl av).length) Slot.unset).toArray = ls at hl ⊢
  exact body p e s m below meth c ⟨B.exec, B.bytes, hown, fun w hw => hts w (List.mem_cons_of_mem _ hw), hK, hN, hA, hA2⟩ hml B.returns B.notSynchronized hnm hs hD hw h0 hO ls hl
/-- words of a constructor's call site: by name, or as a nest mate's -/
def b_okI (own : String) (index : Nat) (y : MethodName) (bytes : ByteArray) (mL n : Nat) : Prop :=
  Cond.methodLink own index y ∈ q_tbl ∧ Cond.instanceMethod y ∈ q_tbl ∧ Cond.initialized y.cls ∈ q_tbl ∧ Cond.code y bytes mL none ∈ q_tbl ∧ y.name = "<init>" ∧ (y.cls ≠ "java/lang/invoke/MethodHandle" ∧ y.cls ≠ "java/lang/invoke/VarHandle" ∧ (parseMethodDescriptor y.desc).map (fun d => d.parameters.length) = some n)
def b_okN (own : String) (index : Nat) (host : String) (y : MethodName) (bytes : ByteArray) (mL n : Nat) : Prop :=
  (own, index, y, host) ∈ q_nest ∧ Cond.instanceMethod y ∈ q_tbl ∧ Cond.initialized y.cls ∈ q_tbl ∧ Cond.code y bytes mL none ∈ q_tbl ∧ y.name = "<init>" ∧ (y.cls ≠ "java/lang/invoke/MethodHandle" ∧ y.cls ≠ "java/lang/invoke/VarHandle" ∧ (parseMethodDescriptor y.desc).map (fun d => d.parameters.length) = some n)
section QO
variable {p : Program} {l : Launch} {e : Env} {R : Room} {s : State} {m : MethodId} {args : Array Value} {below : List Frame} {meth : Method} {c : Code} {H : Heap} {locs : List Loc} {cells slots : Nat} {Q : State → Prop} {cc : ByteArray} {own : String} {D : DW} {A : Nat → Prop} {pc : Nat} {ls : Array Slot} {rest st : List Value} {h : Nat} {X : XW} {σ : ST}
theorem b_pre (E : q_E0 p c cc s m args own D) {ci N sz : Nat} {V : Nat → Value} (hD : X.1 = D) (hw : q_w X σ H) (h0 : q_kd X h = 0) (ob : t_OB h (D.1.1 ci) N (D.1.2 ci) H V) (hs : H.size = sz) (av : List Value) : PreS s H (q_PN D X σ h sz ci N V av) av :=
  ⟨q_blindN, fun U hU hW => ⟨rfl, by rw [hU]; exact hs, hD, by rw [hU]; exact hw, h0, by rw [hU]; exact ob, va_K.moved hW.alike E.2.2.2.2.1, fun r hr => va_Nw.warmM hW (E.2.2.2.2.2.1 r hr), va_AO.moved hW.alike E.2.2.2.2.2.2.1, va_AO.moved hW.alike E.2.2.2.2.2.2.2⟩⟩
theorem b_runI (E : q_E0 p c cc s m args own D) (hml : c.maxLocals = ls.size) {ci N sz index mL na mc ms f w : Nat} {V : Nat → Value} {As : List Value} {y : MethodName} {bytes : ByteArray} {Qc : Array Value → State → Outcome → State → Prop} (hD : X.1 = D) (hw : q_w X σ H) (h0 : q_kd X h = 0) (ob : t_OB h (D.1.1 ci) N (D.1.2 ci) H V) (hs : H.size = sz)
    (hM : Met l y (q_ws y bytes mL none) { frames := f, cells := mc, slots := ms, locals := w } (q_PN D X σ h sz ci N V (.ref h :: As)) Qc mc ms (q_nw h sz)) (ok : b_okI own index y bytes mL na) (hn : As.length = na) (hR : f + 1 ≤ R.frames ∧ 8 + (mL + 11) + w ≤ R.locals) (hcs : cells + mc ≤ R.cells ∧ slots + ms ≤ R.slots)
    (hst : st = As.reverse ++ .ref h :: rest) (hW : (rest.map fun v => v.category).sum ≤ 8) (hdg : decode cc pc = .ok (.invokespecial index, 3)) :
    va_Run p l e R s m args below meth c H locs cells slots mc ms (F0 m pc ls st) rest (Qc (Value.ref h :: As).toArray) (q_nw h sz) := by
  obtain ⟨o1, o2, o3, o4, o5, o6⟩ := ok
  obtain ⟨hx, hb, hown, hts, -⟩ := id E
  exact va_runI (nL := ls.size) ⟨hx, hb, hml, hown, hts⟩ hM (cwI na hts (q_goodIn fun w hw => (List.mem_cons.mp hw).elim (fun e => by rw [e]; exact o4) id) rfl rfl rfl (hts _ o3) (hts _ o1) (hts _ o2) o5 o6 hR) (b_pre E hD hw h0 ob hs (.ref h :: As)) rfl hn rfl hst (lv_room hW) hdg hcs
theorem b_runN (E : q_E0 p c cc s m args own D) (hml : c.maxLocals = ls.size) {ci N sz index mL na mc ms f w : Nat} {V : Nat → Value} {host : String} {As : List Value} {y : MethodName} {bytes : ByteArray} {Qc : Array Value → State → Outcome → State → Prop} (hD : X.1 = D) (hw : q_w X σ H) (h0 : q_kd X h = 0) (ob : t_OB h (D.1.1 ci) N (D.1.2 ci) H V) (hs : H.size = sz)
    (hM : Met l y (q_ws y bytes mL none) { frames := f, cells := mc, slots := ms, locals := w } (q_PN D X σ h sz ci N V (.ref h :: As)) Qc mc ms (q_nw h sz)) (ok : b_okN own index host y bytes mL na) (hn : As.length = na) (hR : f + 1 ≤ R.frames ∧ 8 + (mL + 11) + w ≤ R.locals) (hcs : cells + mc ≤ R.cells ∧ slots + ms ≤ R.slots)
    (hst : st = As.reverse ++ .ref h :: rest) (hW : (rest.map fun v => v.category).sum ≤ 8) (hdg : decode cc pc = .ok (.invokespecial index, 3)) :
    va_Run p l e R s m args below meth c H locs cells slots mc ms (F0 m pc ls st) rest (Qc (Value.ref h :: As).toArray) (q_nw h sz) := by
  obtain ⟨o1, o2, o3, o4, o5, o6⟩ := ok
  obtain ⟨hx, hb, hown, hts, -⟩ := id E
  have hl : va_Nw (.methodLinkNest own index y host) s := E.2.2.2.2.2.1 _ o1
  exact va_runIN (nL := ls.size) ⟨hx, hb, hml, hown, hts⟩ hM ⟨va_cnB na hts (q_goodIn fun w hw => (List.mem_cons.mp hw).elim (fun e => by rw [e]; exact o4) id) rfl rfl rfl hl (hts _ o3) o6 hR, o5, hts _ o2⟩ (b_pre E hD hw h0 ob hs (.ref h :: As)) rfl hn rfl hst (lv_room hW) hdg hcs
/-- the call goes on, the object made -/
theorem b_cv {sz k mc ms : Nat} {post : XW → ST → Prop} {args2 : Array Value} {H0 : Heap} (hr : va_Run p l e R s m args below meth c H locs cells slots mc ms (F0 m pc ls st) rest (q_QN X σ h sz k post args2) (q_nw h sz)) (hS : va_S A H0 H locs) (hs : H.size = sz) (hA : ∀ q, q_nw h sz q → A q)
    (kk : ∀ (X1 : XW) (σ1 : ST) (H1 : Heap) (locs1 : List Loc), q_ext (q_nw h sz) X X1 σ σ1 → q_kd X1 h = k → post X1 σ1 → q_w X1 σ1 H1 → H.size ≤ H1.size → (∀ a, a < H.size → a ≠ h → H1[a]? = H[a]?) → va_S A H0 H1 locs1 → W p l e R s m args below meth c H1 locs1 (cells + mc) (slots + ms) Q (F0 m (pc + 3) ls rest)) : W p l e R s m args below meth c H locs cells slots Q (F0 m pc ls st) := by
  refine va_callv hr hS (fun q _ => hA q) hA (fun u t H1 locs1 e1 _ hp hb hz hk hS1 => ?_)
  refine kk u.1 u.2 H1 locs1 hp.1 hp.2.1 hp.2.2 (by rw [← e1]; exact hb) hz (fun a h1 h2 => hk a h1 ?_) hS1
  rintro (q | q)
  · exact h2 q
  · omega
/-- return -/
theorem b_ret (E : q_E0 p c cc s m args own D) (hr : meth.sig.returnType = none) (hlk : meth.locks = false) {X0 : XW} {σ0 : ST} {sz k : Nat} {post : XW → ST → Prop} (hS : va_S (q_nw h sz) s.heap H locs) (hx : q_ext (q_nw h sz) X0 X σ0 σ) (hk : q_kd X h = k) (hp : post X σ) (hw : q_w X σ H) (hdg : decode cc pc = .ok (.return_, 1)) : W p l e R s m args below meth c H locs cells slots (MQ below (q_QN X0 σ0 h sz k post) args s cells slots (q_nw h sz)) (F0 m pc ls []) :=
  W.vret E.1 E.2.1 hr (fun t ht _ => ⟨⟨(X, σ), rfl, ⟨hx, hk, hp⟩, by show q_w X σ t.heap; rw [ht]; exact hw⟩, hS.F ht⟩) hS.2.2 hdg hlk
end QO
end
/-! FROM 50b.born.lean.txt -/
section
theorem q_exi {A : Nat → Prop} {X X' : XW} {σ σ' : ST} {a f : Nat} (hx : q_ext A X X' σ σ') (ha : q_kd X a ≠ 0) : σ'.1 a f = σ.1 a f := (hx.2.2.2.1 a ha).2.2.2 f
theorem q_wcell {D : DW} {X : XW} {σ : ST} {H : Heap} {v k ci N : Nat} {C : String} {T : u_T} (hD : X.1 = D) (w : q_w X σ H) (hk : q_kd X v = k) (hci : k = ci + 1 ∧ k < 20) (hc : vwCl[ci]? = some (C, T, N)) : ∃ cv : Cell, H[v]? = some cv ∧ cv.cls = D.1.1 ci ∧ cv.vm = .none := by
  obtain ⟨rfl, h20⟩ := hci
  subst hD
  obtain ⟨r, h1, h2⟩ := (w.2.1 v (by rw [hk]; omega)).1 (by rw [hk]; exact h20)
  rw [hk] at h2
  exact t_cell h2
theorem q_arr_eq {c : ClassId} {n : Nat} {g g' : Nat → Value} (h : ∀ j, j < n → g j = g' j) : arrV c n g = arrV c n g' := by
  have e : (fun j : Fin n => g j.val) = fun j : Fin n => g' j.val := funext fun j => h j.1 j.2
  unfold arrV
  rw [e]
theorem q_bn12 (f : Nat) (h : 40 ≤ f) : q_bn 12 f = q_full := by
  unfold q_bn
  split <;> first | rfl | omega | (split <;> first | rfl | omega)
theorem q_hB2 {L : List Int32} (h : ∀ f, f < 40 → (q_bn 12 f).1 ≤ (L.getD f 0).toInt ∧ (L.getD f 0).toInt ≤ (q_bn 12 f).2) (f : Nat) : q_in (q_bn 12 f) (L.getD f 0) := by
  by_cases q : f < 40
  · exact h f q
  · exact q_inU (q_bn12 f (by omega))
end
/-! FROM 51.words.lean.txt -/
section
theorem bw_47 : Cond.methodLink RX5 1 Lib.objectInit ∈ q_tbl := (q_in_t1 (i := 47) (by first | rfl | decide +kernel) rfl)
theorem bw_26 : Cond.instanceMethod Lib.objectInit ∈ q_tbl := (q_in_t1 (i := 26) (by first | rfl | decide +kernel) rfl)
theorem bw_27 : Cond.code Lib.objectInit ⟨#[0xb1]⟩ 1 none ∈ q_tbl := (q_in_t1 (i := 27) (by first | rfl | decide +kernel) rfl)
theorem bw_56 : Cond.arrayClass (newarray.typeOf .int) ∈ q_tbl := (q_in_t1 (i := 56) (by first | rfl | decide +kernel) rfl)
theorem bw_51 : Cond.fieldLink RX5 13 "CheatHeap$Row" "cells" "[I" ∈ q_tbl := (q_in_t1 (i := 51) (by first | rfl | decide +kernel) rfl)
theorem bw_429 : Cond.methodLink RX10 3 Lib.objectInit ∈ q_tbl := (q_in_t2 (i := 189) (by first | rfl | decide +kernel) rfl)
theorem bw_430 : Cond.fieldLink RX10 9 "CheatHeap$Tray" "sort" "I" ∈ q_tbl := (q_in_t2 (i := 190) (by first | rfl | decide +kernel) rfl)
theorem bw_432 : Cond.fieldLink RX10 15 "CheatHeap$Tray" "places" "I" ∈ q_tbl := (q_in_t2 (i := 192) (by first | rfl | decide +kernel) rfl)
theorem bw_441 : Cond.arrayClass (newarray.typeOf .long) ∈ q_tbl := (q_in_t2 (i := 201) (by first | rfl | decide +kernel) rfl)
theorem bw_433 : Cond.fieldLink RX10 18 "CheatHeap$Tray" "cells" "[J" ∈ q_tbl := (q_in_t2 (i := 193) (by first | rfl | decide +kernel) rfl)
theorem bw_41 : Cond.methodLink RX6 3 Lib.objectInit ∈ q_tbl := (q_in_t1 (i := 41) (by first | rfl | decide +kernel) rfl)
theorem bw_57 : Cond.fieldLink RX6 9 "CheatHeap$Rules" "kinds" "I" ∈ q_tbl := (q_in_t1 (i := 57) (by first | rfl | decide +kernel) rfl)
theorem bw_62 : Cond.fieldLink RX6 15 "CheatHeap$Rules" "each" "I" ∈ q_tbl := (q_in_t1 (i := 62) (by first | rfl | decide +kernel) rfl)
theorem bw_65 : Cond.fieldLink RX6 18 "CheatHeap$Rules" "law" "I" ∈ q_tbl := (q_in_t1 (i := 65) (by first | rfl | decide +kernel) rfl)
theorem bw_68 : Cond.fieldLink RX6 21 "CheatHeap$Rules" "most" "I" ∈ q_tbl := (q_in_t1 (i := 68) (by first | rfl | decide +kernel) rfl)
theorem bw_73 : Cond.fieldLink RX6 24 "CheatHeap$Rules" "players" "I" ∈ q_tbl := (q_in_t1 (i := 73) (by first | rfl | decide +kernel) rfl)
theorem bw_42 : Cond.classLink RX6 27 RX5 ∈ q_tbl := (q_in_t1 (i := 42) (by first | rfl | decide +kernel) rfl)
theorem bw_43 : Cond.instantiable RX5 1 ∈ q_tbl := (q_in_t1 (i := 43) (by first | rfl | decide +kernel) rfl)
theorem bw_4 : Cond.initialized RX5 ∈ q_tbl := (q_in_t1 (i := 4) (by first | rfl | decide +kernel) rfl)
theorem bi_X6_29 : b_okI RX6 29 yX5_init cX5_init 2 1 := ⟨(q_in_t1 (i := 44) (by first | rfl | decide +kernel) rfl), (q_in_t1 (i := 45) (by first | rfl | decide +kernel) rfl), (q_in_t1 (i := 4) (by first | rfl | decide +kernel) rfl), (q_in_t1 (i := 46) (by first | rfl | decide +kernel) rfl), rfl, ⟨by decide, by decide, rfl⟩⟩
theorem bw_78 : Cond.fieldLink RX6 32 "CheatHeap$Rules" "dealt" "LCheatHeap$Row;" ∈ q_tbl := (q_in_t1 (i := 78) (by first | rfl | decide +kernel) rfl)
theorem bw_82 : Cond.fieldLink RX6 36 "CheatHeap$Rules" "names" "LCheatHeap$Row;" ∈ q_tbl := (q_in_t1 (i := 82) (by first | rfl | decide +kernel) rfl)
theorem bw_83 : Cond.fieldLink RX6 39 "CheatHeap$Rules" "nameLength" "LCheatHeap$Row;" ∈ q_tbl := (q_in_t1 (i := 83) (by first | rfl | decide +kernel) rfl)
theorem bw_106 : Cond.methodLink RX1 3 Lib.objectInit ∈ q_tbl := (q_in_t1 (i := 106) (by first | rfl | decide +kernel) rfl)
theorem bw_107 : Cond.classLink RX1 9 RX5 ∈ q_tbl := (q_in_t1 (i := 107) (by first | rfl | decide +kernel) rfl)
theorem bi_X1_11 : b_okI RX1 11 yX5_init cX5_init 2 1 := ⟨(q_in_t1 (i := 108) (by first | rfl | decide +kernel) rfl), (q_in_t1 (i := 45) (by first | rfl | decide +kernel) rfl), (q_in_t1 (i := 4) (by first | rfl | decide +kernel) rfl), (q_in_t1 (i := 46) (by first | rfl | decide +kernel) rfl), rfl, ⟨by decide, by decide, rfl⟩⟩
theorem bw_109 : Cond.fieldLink RX1 14 "CheatHeap$Hands" "held" "LCheatHeap$Row;" ∈ q_tbl := (q_in_t1 (i := 109) (by first | rfl | decide +kernel) rfl)
theorem bw_110 : Cond.fieldLink RX1 20 "CheatHeap$Hands" "laid" "LCheatHeap$Row;" ∈ q_tbl := (q_in_t1 (i := 110) (by first | rfl | decide +kernel) rfl)
theorem bw_111 : Cond.fieldLink RX1 23 "CheatHeap$Hands" "cards" "LCheatHeap$Row;" ∈ q_tbl := (q_in_t1 (i := 111) (by first | rfl | decide +kernel) rfl)
theorem bw_115 : Cond.fieldLink RX1 26 "CheatHeap$Hands" "lying" "LCheatHeap$Row;" ∈ q_tbl := (q_in_t1 (i := 115) (by first | rfl | decide +kernel) rfl)
theorem bw_119 : Cond.fieldLink RX1 29 "CheatHeap$Hands" "doubting" "LCheatHeap$Row;" ∈ q_tbl := (q_in_t1 (i := 119) (by first | rfl | decide +kernel) rfl)
theorem bw_123 : Cond.fieldLink RX1 32 "CheatHeap$Hands" "shown" "LCheatHeap$Row;" ∈ q_tbl := (q_in_t1 (i := 123) (by first | rfl | decide +kernel) rfl)
theorem bw_127 : Cond.fieldLink RX1 35 "CheatHeap$Hands" "untrue" "LCheatHeap$Row;" ∈ q_tbl := (q_in_t1 (i := 127) (by first | rfl | decide +kernel) rfl)
theorem bw_150 : Cond.methodLink RX2 3 Lib.objectInit ∈ q_tbl := (q_in_t1 (i := 150) (by first | rfl | decide +kernel) rfl)
theorem bw_153 : Cond.fieldLink RX2 9 "CheatHeap$Pile" "layings" "I" ∈ q_tbl := (q_in_t1 (i := 153) (by first | rfl | decide +kernel) rfl)
theorem bw_155 : Cond.fieldLink RX2 15 "CheatHeap$Pile" "cards" "I" ∈ q_tbl := (q_in_t1 (i := 155) (by first | rfl | decide +kernel) rfl)
theorem bw_151 : Cond.classLink RX2 18 RX5 ∈ q_tbl := (q_in_t1 (i := 151) (by first | rfl | decide +kernel) rfl)
theorem bi_X2_20 : b_okI RX2 20 yX5_init cX5_init 2 1 := ⟨(q_in_t1 (i := 152) (by first | rfl | decide +kernel) rfl), (q_in_t1 (i := 45) (by first | rfl | decide +kernel) rfl), (q_in_t1 (i := 4) (by first | rfl | decide +kernel) rfl), (q_in_t1 (i := 46) (by first | rfl | decide +kernel) rfl), rfl, ⟨by decide, by decide, rfl⟩⟩
theorem bw_159 : Cond.fieldLink RX2 23 "CheatHeap$Pile" "layer" "LCheatHeap$Row;" ∈ q_tbl := (q_in_t1 (i := 159) (by first | rfl | decide +kernel) rfl)
theorem bw_161 : Cond.fieldLink RX2 27 "CheatHeap$Pile" "kindSaid" "LCheatHeap$Row;" ∈ q_tbl := (q_in_t1 (i := 161) (by first | rfl | decide +kernel) rfl)
theorem bw_163 : Cond.fieldLink RX2 30 "CheatHeap$Pile" "size" "LCheatHeap$Row;" ∈ q_tbl := (q_in_t1 (i := 163) (by first | rfl | decide +kernel) rfl)
theorem bw_165 : Cond.fieldLink RX2 33 "CheatHeap$Pile" "card" "LCheatHeap$Row;" ∈ q_tbl := (q_in_t1 (i := 165) (by first | rfl | decide +kernel) rfl)
theorem bw_184 : Cond.methodLink RX8 5 Lib.objectInit ∈ q_tbl := (q_in_t1 (i := 184) (by first | rfl | decide +kernel) rfl)
theorem bw_187 : Cond.fieldLink RX8 11 "CheatHeap$Script" "isThere" "Z" ∈ q_tbl := (q_in_t1 (i := 187) (by first | rfl | decide +kernel) rfl)
theorem bw_190 : Cond.fieldLink RX8 15 "CheatHeap$Script" "steps" "I" ∈ q_tbl := (q_in_t1 (i := 190) (by first | rfl | decide +kernel) rfl)
theorem bw_193 : Cond.fieldLink RX8 19 "CheatHeap$Script" "lines" "I" ∈ q_tbl := (q_in_t1 (i := 193) (by first | rfl | decide +kernel) rfl)
theorem bw_185 : Cond.classLink RX8 22 RX5 ∈ q_tbl := (q_in_t1 (i := 185) (by first | rfl | decide +kernel) rfl)
theorem bi_X8_24 : b_okI RX8 24 yX5_init cX5_init 2 1 := ⟨(q_in_t1 (i := 186) (by first | rfl | decide +kernel) rfl), (q_in_t1 (i := 45) (by first | rfl | decide +kernel) rfl), (q_in_t1 (i := 4) (by first | rfl | decide +kernel) rfl), (q_in_t1 (i := 46) (by first | rfl | decide +kernel) rfl), rfl, ⟨by decide, by decide, rfl⟩⟩
theorem bw_195 : Cond.fieldLink RX8 27 "CheatHeap$Script" "action" "LCheatHeap$Row;" ∈ q_tbl := (q_in_t1 (i := 195) (by first | rfl | decide +kernel) rfl)
theorem bw_198 : Cond.fieldLink RX8 31 "CheatHeap$Script" "mate" "LCheatHeap$Row;" ∈ q_tbl := (q_in_t1 (i := 198) (by first | rfl | decide +kernel) rfl)
theorem bw_201 : Cond.fieldLink RX8 34 "CheatHeap$Script" "who" "LCheatHeap$Row;" ∈ q_tbl := (q_in_t1 (i := 201) (by first | rfl | decide +kernel) rfl)
theorem bw_204 : Cond.fieldLink RX8 37 "CheatHeap$Script" "comparison" "LCheatHeap$Row;" ∈ q_tbl := (q_in_t1 (i := 204) (by first | rfl | decide +kernel) rfl)
theorem bw_206 : Cond.fieldLink RX8 40 "CheatHeap$Script" "number" "LCheatHeap$Row;" ∈ q_tbl := (q_in_t1 (i := 206) (by first | rfl | decide +kernel) rfl)
theorem bw_391 : Cond.methodLink RX7 3 Lib.objectInit ∈ q_tbl := (q_in_t2 (i := 151) (by first | rfl | decide +kernel) rfl)
theorem bw_394 : Cond.fieldLink RX7 9 "CheatHeap$Run" "steps" "I" ∈ q_tbl := (q_in_t2 (i := 154) (by first | rfl | decide +kernel) rfl)
theorem bw_396 : Cond.fieldLink RX7 15 "CheatHeap$Run" "missed" "I" ∈ q_tbl := (q_in_t2 (i := 156) (by first | rfl | decide +kernel) rfl)
theorem bw_398 : Cond.fieldLink RX7 18 "CheatHeap$Run" "layings" "I" ∈ q_tbl := (q_in_t2 (i := 158) (by first | rfl | decide +kernel) rfl)
theorem bw_400 : Cond.fieldLink RX7 21 "CheatHeap$Run" "doubts" "I" ∈ q_tbl := (q_in_t2 (i := 160) (by first | rfl | decide +kernel) rfl)
theorem bw_402 : Cond.fieldLink RX7 24 "CheatHeap$Run" "rightDoubts" "I" ∈ q_tbl := (q_in_t2 (i := 162) (by first | rfl | decide +kernel) rfl)
theorem bw_404 : Cond.fieldLink RX7 27 "CheatHeap$Run" "isCut" "Z" ∈ q_tbl := (q_in_t2 (i := 164) (by first | rfl | decide +kernel) rfl)
theorem bw_406 : Cond.fieldLink RX7 31 "CheatHeap$Run" "state" "I" ∈ q_tbl := (q_in_t2 (i := 166) (by first | rfl | decide +kernel) rfl)
theorem bw_392 : Cond.classLink RX7 34 RX5 ∈ q_tbl := (q_in_t2 (i := 152) (by first | rfl | decide +kernel) rfl)
theorem bi_X7_38 : b_okI RX7 38 yX5_init cX5_init 2 1 := ⟨(q_in_t2 (i := 153) (by first | rfl | decide +kernel) rfl), (q_in_t1 (i := 45) (by first | rfl | decide +kernel) rfl), (q_in_t1 (i := 4) (by first | rfl | decide +kernel) rfl), (q_in_t1 (i := 46) (by first | rfl | decide +kernel) rfl), rfl, ⟨by decide, by decide, rfl⟩⟩
theorem bw_407 : Cond.fieldLink RX7 41 "CheatHeap$Run" "timesLeft" "LCheatHeap$Row;" ∈ q_tbl := (q_in_t2 (i := 167) (by first | rfl | decide +kernel) rfl)
theorem bw_35 : Cond.methodLink RX0 3 Lib.objectInit ∈ q_tbl := (q_in_t1 (i := 35) (by first | rfl | decide +kernel) rfl)
theorem bw_36 : Cond.classLink RX0 9 RX6 ∈ q_tbl := (q_in_t1 (i := 36) (by first | rfl | decide +kernel) rfl)
theorem bw_37 : Cond.instantiable RX6 8 ∈ q_tbl := (q_in_t1 (i := 37) (by first | rfl | decide +kernel) rfl)
theorem bw_3 : Cond.initialized RX6 ∈ q_tbl := (q_in_t1 (i := 3) (by first | rfl | decide +kernel) rfl)
theorem bi_X0_11 : b_okN RX0 11 "CheatHeap" yX6_init cX6_init 1 0 := ⟨List.mem_of_getElem? (i := 1) rfl, (q_in_t1 (i := 39) (by first | rfl | decide +kernel) rfl), (q_in_t1 (i := 3) (by first | rfl | decide +kernel) rfl), (q_in_t1 (i := 40) (by first | rfl | decide +kernel) rfl), rfl, ⟨by decide, by decide, rfl⟩⟩
theorem bw_228 : Cond.fieldLink RX0 12 "CheatHeap$Game" "rules" "LCheatHeap$Rules;" ∈ q_tbl := (q_in_t1 (i := 228) (by first | rfl | decide +kernel) rfl)
theorem bw_101 : Cond.classLink RX0 18 RX1 ∈ q_tbl := (q_in_t1 (i := 101) (by first | rfl | decide +kernel) rfl)
theorem bw_102 : Cond.instantiable RX1 7 ∈ q_tbl := (q_in_t1 (i := 102) (by first | rfl | decide +kernel) rfl)
theorem bw_6 : Cond.initialized RX1 ∈ q_tbl := (q_in_t1 (i := 6) (by first | rfl | decide +kernel) rfl)
theorem bi_X0_20 : b_okN RX0 20 "CheatHeap" yX1_init cX1_init 1 0 := ⟨List.mem_of_getElem? (i := 2) rfl, (q_in_t1 (i := 104) (by first | rfl | decide +kernel) rfl), (q_in_t1 (i := 6) (by first | rfl | decide +kernel) rfl), (q_in_t1 (i := 105) (by first | rfl | decide +kernel) rfl), rfl, ⟨by decide, by decide, rfl⟩⟩
theorem bw_232 : Cond.fieldLink RX0 21 "CheatHeap$Game" "hands" "LCheatHeap$Hands;" ∈ q_tbl := (q_in_t1 (i := 232) (by first | rfl | decide +kernel) rfl)
theorem bw_145 : Cond.classLink RX0 25 RX2 ∈ q_tbl := (q_in_t1 (i := 145) (by first | rfl | decide +kernel) rfl)
theorem bw_146 : Cond.instantiable RX2 6 ∈ q_tbl := (q_in_t1 (i := 146) (by first | rfl | decide +kernel) rfl)
theorem bw_7 : Cond.initialized RX2 ∈ q_tbl := (q_in_t1 (i := 7) (by first | rfl | decide +kernel) rfl)
theorem bi_X0_27 : b_okN RX0 27 "CheatHeap" yX2_init cX2_init 1 0 := ⟨List.mem_of_getElem? (i := 3) rfl, (q_in_t1 (i := 148) (by first | rfl | decide +kernel) rfl), (q_in_t1 (i := 7) (by first | rfl | decide +kernel) rfl), (q_in_t1 (i := 149) (by first | rfl | decide +kernel) rfl), rfl, ⟨by decide, by decide, rfl⟩⟩
theorem bw_236 : Cond.fieldLink RX0 28 "CheatHeap$Game" "pile" "LCheatHeap$Pile;" ∈ q_tbl := (q_in_t1 (i := 236) (by first | rfl | decide +kernel) rfl)
theorem bw_179 : Cond.classLink RX0 32 RX8 ∈ q_tbl := (q_in_t1 (i := 179) (by first | rfl | decide +kernel) rfl)
theorem bw_180 : Cond.instantiable RX8 8 ∈ q_tbl := (q_in_t1 (i := 180) (by first | rfl | decide +kernel) rfl)
theorem bw_8 : Cond.initialized RX8 ∈ q_tbl := (q_in_t1 (i := 8) (by first | rfl | decide +kernel) rfl)
theorem bi_X0_34 : b_okN RX0 34 "CheatHeap" yX8_init cX8_init 1 0 := ⟨List.mem_of_getElem? (i := 4) rfl, (q_in_t1 (i := 182) (by first | rfl | decide +kernel) rfl), (q_in_t1 (i := 8) (by first | rfl | decide +kernel) rfl), (q_in_t1 (i := 183) (by first | rfl | decide +kernel) rfl), rfl, ⟨by decide, by decide, rfl⟩⟩
theorem bw_239 : Cond.fieldLink RX0 35 "CheatHeap$Game" "script" "LCheatHeap$Script;" ∈ q_tbl := (q_in_t1 (i := 239) (by first | rfl | decide +kernel) rfl)
theorem bw_242 : Cond.fieldLink RX0 39 "CheatHeap$Game" "kind" "I" ∈ q_tbl := (q_in_t2 (i := 2) (by first | rfl | decide +kernel) rfl)
theorem bw_245 : Cond.fieldLink RX0 43 "CheatHeap$Game" "turn" "I" ∈ q_tbl := (q_in_t2 (i := 5) (by first | rfl | decide +kernel) rfl)
theorem bw_248 : Cond.fieldLink RX0 46 "CheatHeap$Game" "winner" "I" ∈ q_tbl := (q_in_t2 (i := 8) (by first | rfl | decide +kernel) rfl)
theorem bw_251 : Cond.fieldLink RX0 49 "CheatHeap$Game" "open" "Z" ∈ q_tbl := (q_in_t2 (i := 11) (by first | rfl | decide +kernel) rfl)
theorem bw_226 : Cond.classLink RX0 53 RX5 ∈ q_tbl := (q_in_t1 (i := 226) (by first | rfl | decide +kernel) rfl)
theorem bi_X0_55 : b_okI RX0 55 yX5_init cX5_init 2 1 := ⟨(q_in_t1 (i := 227) (by first | rfl | decide +kernel) rfl), (q_in_t1 (i := 45) (by first | rfl | decide +kernel) rfl), (q_in_t1 (i := 4) (by first | rfl | decide +kernel) rfl), (q_in_t1 (i := 46) (by first | rfl | decide +kernel) rfl), rfl, ⟨by decide, by decide, rfl⟩⟩
theorem bw_254 : Cond.fieldLink RX0 58 "CheatHeap$Game" "wants" "LCheatHeap$Row;" ∈ q_tbl := (q_in_t2 (i := 14) (by first | rfl | decide +kernel) rfl)
theorem bw_255 : Cond.fieldLink RX0 62 "CheatHeap$Game" "wanted" "I" ∈ q_tbl := (q_in_t2 (i := 15) (by first | rfl | decide +kernel) rfl)
theorem bw_257 : Cond.fieldLink RX0 65 "CheatHeap$Game" "rest" "LCheatHeap$Row;" ∈ q_tbl := (q_in_t2 (i := 17) (by first | rfl | decide +kernel) rfl)
theorem bw_258 : Cond.fieldLink RX0 68 "CheatHeap$Game" "sumForeseen" "I" ∈ q_tbl := (q_in_t2 (i := 18) (by first | rfl | decide +kernel) rfl)
theorem bw_260 : Cond.fieldLink RX0 71 "CheatHeap$Game" "ridBehind" "I" ∈ q_tbl := (q_in_t2 (i := 20) (by first | rfl | decide +kernel) rfl)
theorem bw_262 : Cond.fieldLink RX0 74 "CheatHeap$Game" "latestKind" "I" ∈ q_tbl := (q_in_t2 (i := 22) (by first | rfl | decide +kernel) rfl)
theorem bw_264 : Cond.fieldLink RX0 77 "CheatHeap$Game" "firstLie" "I" ∈ q_tbl := (q_in_t2 (i := 24) (by first | rfl | decide +kernel) rfl)
theorem bw_306 : Cond.methodLink RX3 3 Lib.objectInit ∈ q_tbl := (q_in_t2 (i := 66) (by first | rfl | decide +kernel) rfl)
theorem bw_55 : Cond.arrayClass (newarray.typeOf .byte) ∈ q_tbl := (q_in_t1 (i := 55) (by first | rfl | decide +kernel) rfl)
theorem bw_316 : Cond.fieldLink RX3 9 "CheatHeap$Reader" "text" "[B" ∈ q_tbl := (q_in_t2 (i := 76) (by first | rfl | decide +kernel) rfl)
theorem bw_317 : Cond.fieldLink RX3 15 "CheatHeap$Reader" "length" "I" ∈ q_tbl := (q_in_t2 (i := 77) (by first | rfl | decide +kernel) rfl)
theorem bw_318 : Cond.fieldLink RX3 19 "CheatHeap$Reader" "begin" "I" ∈ q_tbl := (q_in_t2 (i := 78) (by first | rfl | decide +kernel) rfl)
theorem bw_319 : Cond.fieldLink RX3 22 "CheatHeap$Reader" "end" "I" ∈ q_tbl := (q_in_t2 (i := 79) (by first | rfl | decide +kernel) rfl)
theorem bw_320 : Cond.fieldLink RX3 25 "CheatHeap$Reader" "type" "I" ∈ q_tbl := (q_in_t2 (i := 80) (by first | rfl | decide +kernel) rfl)
theorem bw_325 : Cond.fieldLink RX3 28 "CheatHeap$Reader" "value" "I" ∈ q_tbl := (q_in_t2 (i := 85) (by first | rfl | decide +kernel) rfl)
theorem bw_328 : Cond.fieldLink RX3 31 "CheatHeap$Reader" "fault" "I" ∈ q_tbl := (q_in_t2 (i := 88) (by first | rfl | decide +kernel) rfl)
theorem bw_330 : Cond.fieldLink RX3 34 "CheatHeap$Reader" "place" "I" ∈ q_tbl := (q_in_t2 (i := 90) (by first | rfl | decide +kernel) rfl)
theorem bi_X9_3 : b_okN RX9 3 "CheatHeap" yX3_init cX3_init 1 0 := ⟨List.mem_of_getElem? (i := 6) rfl, (q_in_t2 (i := 64) (by first | rfl | decide +kernel) rfl), (q_in_t1 (i := 9) (by first | rfl | decide +kernel) rfl), (q_in_t2 (i := 65) (by first | rfl | decide +kernel) rfl), rfl, ⟨by decide, by decide, rfl⟩⟩
theorem bw_307 : Cond.classLink RX9 9 RX0 ∈ q_tbl := (q_in_t2 (i := 67) (by first | rfl | decide +kernel) rfl)
theorem bw_31 : Cond.instantiable RX0 15 ∈ q_tbl := (q_in_t1 (i := 31) (by first | rfl | decide +kernel) rfl)
theorem bw_2 : Cond.initialized RX0 ∈ q_tbl := (q_in_t1 (i := 2) (by first | rfl | decide +kernel) rfl)
theorem bi_X9_11 : b_okN RX9 11 "CheatHeap" yX0_init cX0_init 1 0 := ⟨List.mem_of_getElem? (i := 7) rfl, (q_in_t1 (i := 33) (by first | rfl | decide +kernel) rfl), (q_in_t1 (i := 2) (by first | rfl | decide +kernel) rfl), (q_in_t1 (i := 34) (by first | rfl | decide +kernel) rfl), rfl, ⟨by decide, by decide, rfl⟩⟩
theorem bw_311 : Cond.fieldLink RX9 12 "CheatHeap$TableReader" "game" "LCheatHeap$Game;" ∈ q_tbl := (q_in_t2 (i := 71) (by first | rfl | decide +kernel) rfl)
theorem bw_313 : Cond.fieldLink RX9 18 "CheatHeap$TableReader" "isLawTold" "Z" ∈ q_tbl := (q_in_t2 (i := 73) (by first | rfl | decide +kernel) rfl)
theorem bw_314 : Cond.fieldLink RX9 22 "CheatHeap$TableReader" "isMostTold" "Z" ∈ q_tbl := (q_in_t2 (i := 74) (by first | rfl | decide +kernel) rfl)
theorem bw_309 : Cond.classLink RX9 25 RX5 ∈ q_tbl := (q_in_t2 (i := 69) (by first | rfl | decide +kernel) rfl)
theorem bi_X9_27 : b_okI RX9 27 yX5_init cX5_init 2 1 := ⟨(q_in_t2 (i := 70) (by first | rfl | decide +kernel) rfl), (q_in_t1 (i := 45) (by first | rfl | decide +kernel) rfl), (q_in_t1 (i := 4) (by first | rfl | decide +kernel) rfl), (q_in_t1 (i := 46) (by first | rfl | decide +kernel) rfl), rfl, ⟨by decide, by decide, rfl⟩⟩
theorem bw_315 : Cond.fieldLink RX9 30 "CheatHeap$TableReader" "toldKinds" "LCheatHeap$Row;" ∈ q_tbl := (q_in_t2 (i := 75) (by first | rfl | decide +kernel) rfl)
theorem bi_X4_3 : b_okN RX4 3 "CheatHeap" yX3_init cX3_init 1 0 := ⟨List.mem_of_getElem? (i := 9) rfl, (q_in_t2 (i := 64) (by first | rfl | decide +kernel) rfl), (q_in_t1 (i := 9) (by first | rfl | decide +kernel) rfl), (q_in_t2 (i := 65) (by first | rfl | decide +kernel) rfl), rfl, ⟨by decide, by decide, rfl⟩⟩
theorem bw_363 : Cond.classLink RX4 9 RX8 ∈ q_tbl := (q_in_t2 (i := 123) (by first | rfl | decide +kernel) rfl)
theorem bi_X4_11 : b_okN RX4 11 "CheatHeap" yX8_init cX8_init 1 0 := ⟨List.mem_of_getElem? (i := 10) rfl, (q_in_t1 (i := 182) (by first | rfl | decide +kernel) rfl), (q_in_t1 (i := 8) (by first | rfl | decide +kernel) rfl), (q_in_t1 (i := 183) (by first | rfl | decide +kernel) rfl), rfl, ⟨by decide, by decide, rfl⟩⟩
theorem bw_367 : Cond.fieldLink RX4 12 "CheatHeap$RoundReader" "script" "LCheatHeap$Script;" ∈ q_tbl := (q_in_t2 (i := 127) (by first | rfl | decide +kernel) rfl)
theorem bw_365 : Cond.classLink RX4 18 RX5 ∈ q_tbl := (q_in_t2 (i := 125) (by first | rfl | decide +kernel) rfl)
theorem bi_X4_20 : b_okI RX4 20 yX5_init cX5_init 2 1 := ⟨(q_in_t2 (i := 126) (by first | rfl | decide +kernel) rfl), (q_in_t1 (i := 45) (by first | rfl | decide +kernel) rfl), (q_in_t1 (i := 4) (by first | rfl | decide +kernel) rfl), (q_in_t1 (i := 46) (by first | rfl | decide +kernel) rfl), rfl, ⟨by decide, by decide, rfl⟩⟩
theorem bw_369 : Cond.fieldLink RX4 23 "CheatHeap$RoundReader" "openAt" "LCheatHeap$Row;" ∈ q_tbl := (q_in_t2 (i := 129) (by first | rfl | decide +kernel) rfl)
theorem bw_370 : Cond.fieldLink RX4 27 "CheatHeap$RoundReader" "depth" "I" ∈ q_tbl := (q_in_t2 (i := 130) (by first | rfl | decide +kernel) rfl)
theorem bw_25 : Cond.methodLink RX11 3 Lib.objectInit ∈ q_tbl := (q_in_t1 (i := 25) (by first | rfl | decide +kernel) rfl)
theorem bw_442 : Cond.fieldLink RX11 9 "CheatHeap" "status" "I" ∈ q_tbl := (q_in_t2 (i := 202) (by first | rfl | decide +kernel) rfl)
theorem bw_443 : Cond.fieldLink RX11 13 "CheatHeap" "fractionTop" "J" ∈ q_tbl := (q_in_t2 (i := 203) (by first | rfl | decide +kernel) rfl)
theorem bw_444 : Cond.fieldLink RX11 17 "CheatHeap" "fractionBottom" "J" ∈ q_tbl := (q_in_t2 (i := 204) (by first | rfl | decide +kernel) rfl)
theorem bw_28 : Cond.classLink RX11 20 RX10 ∈ q_tbl := (q_in_t1 (i := 28) (by first | rfl | decide +kernel) rfl)
theorem bw_445 : Cond.fieldLink RX11 22 "CheatHeap" "trays" "[LCheatHeap$Tray;" ∈ q_tbl := (q_in_t2 (i := 205) (by first | rfl | decide +kernel) rfl)
theorem bw_446 : Cond.fieldLink RX11 26 "CheatHeap" "tape" "[B" ∈ q_tbl := (q_in_t2 (i := 206) (by first | rfl | decide +kernel) rfl)
theorem bw_447 : Cond.fieldLink RX11 30 "CheatHeap" "taped" "I" ∈ q_tbl := (q_in_t2 (i := 207) (by first | rfl | decide +kernel) rfl)
theorem bw_448 : Cond.fieldLink RX11 33 "CheatHeap" "faultKind" "I" ∈ q_tbl := (q_in_t2 (i := 208) (by first | rfl | decide +kernel) rfl)
theorem bw_449 : Cond.fieldLink RX11 36 "CheatHeap" "faultPlace" "I" ∈ q_tbl := (q_in_t2 (i := 209) (by first | rfl | decide +kernel) rfl)
theorem bw_30 : Cond.classLink RX11 39 RX0 ∈ q_tbl := (q_in_t1 (i := 30) (by first | rfl | decide +kernel) rfl)
theorem bi_X11_41 : b_okN RX11 41 "CheatHeap" yX0_init cX0_init 1 0 := ⟨List.mem_of_getElem? (i := 0) rfl, (q_in_t1 (i := 33) (by first | rfl | decide +kernel) rfl), (q_in_t1 (i := 2) (by first | rfl | decide +kernel) rfl), (q_in_t1 (i := 34) (by first | rfl | decide +kernel) rfl), rfl, ⟨by decide, by decide, rfl⟩⟩
theorem bw_450 : Cond.fieldLink RX11 42 "CheatHeap" "game" "LCheatHeap$Game;" ∈ q_tbl := (q_in_t2 (i := 210) (by first | rfl | decide +kernel) rfl)
theorem bw_451 : Cond.fieldLink RX11 46 "CheatHeap" "spare" "LCheatHeap$Game;" ∈ q_tbl := (q_in_t2 (i := 211) (by first | rfl | decide +kernel) rfl)
theorem bw_452 : Cond.fieldLink RX11 49 "CheatHeap" "marks" "[LCheatHeap$Game;" ∈ q_tbl := (q_in_t2 (i := 212) (by first | rfl | decide +kernel) rfl)
theorem bw_453 : Cond.fieldLink RX11 53 "CheatHeap" "marked" "I" ∈ q_tbl := (q_in_t2 (i := 213) (by first | rfl | decide +kernel) rfl)
theorem bw_298 : Cond.classLink RX11 56 RX9 ∈ q_tbl := (q_in_t2 (i := 58) (by first | rfl | decide +kernel) rfl)
theorem bw_299 : Cond.instantiable RX9 12 ∈ q_tbl := (q_in_t2 (i := 59) (by first | rfl | decide +kernel) rfl)
theorem bw_10 : Cond.initialized RX9 ∈ q_tbl := (q_in_t1 (i := 10) (by first | rfl | decide +kernel) rfl)
theorem bi_X11_58 : b_okN RX11 58 "CheatHeap" yX9_init cX9_init 1 0 := ⟨List.mem_of_getElem? (i := 5) rfl, (q_in_t2 (i := 61) (by first | rfl | decide +kernel) rfl), (q_in_t1 (i := 10) (by first | rfl | decide +kernel) rfl), (q_in_t2 (i := 62) (by first | rfl | decide +kernel) rfl), rfl, ⟨by decide, by decide, rfl⟩⟩
theorem bw_454 : Cond.fieldLink RX11 59 "CheatHeap" "tableReader" "LCheatHeap$TableReader;" ∈ q_tbl := (q_in_t2 (i := 214) (by first | rfl | decide +kernel) rfl)
theorem bw_357 : Cond.classLink RX11 63 RX4 ∈ q_tbl := (q_in_t2 (i := 117) (by first | rfl | decide +kernel) rfl)
theorem bw_358 : Cond.instantiable RX4 11 ∈ q_tbl := (q_in_t2 (i := 118) (by first | rfl | decide +kernel) rfl)
theorem bw_11 : Cond.initialized RX4 ∈ q_tbl := (q_in_t1 (i := 11) (by first | rfl | decide +kernel) rfl)
theorem bi_X11_65 : b_okN RX11 65 "CheatHeap" yX4_init cX4_init 1 0 := ⟨List.mem_of_getElem? (i := 8) rfl, (q_in_t2 (i := 120) (by first | rfl | decide +kernel) rfl), (q_in_t1 (i := 11) (by first | rfl | decide +kernel) rfl), (q_in_t2 (i := 121) (by first | rfl | decide +kernel) rfl), rfl, ⟨by decide, by decide, rfl⟩⟩
theorem bw_455 : Cond.fieldLink RX11 66 "CheatHeap" "roundReader" "LCheatHeap$RoundReader;" ∈ q_tbl := (q_in_t2 (i := 215) (by first | rfl | decide +kernel) rfl)
theorem bw_386 : Cond.classLink RX11 70 RX7 ∈ q_tbl := (q_in_t2 (i := 146) (by first | rfl | decide +kernel) rfl)
theorem bw_387 : Cond.instantiable RX7 8 ∈ q_tbl := (q_in_t2 (i := 147) (by first | rfl | decide +kernel) rfl)
theorem bw_12 : Cond.initialized RX7 ∈ q_tbl := (q_in_t1 (i := 12) (by first | rfl | decide +kernel) rfl)
theorem bi_X11_72 : b_okN RX11 72 "CheatHeap" yX7_init cX7_init 1 0 := ⟨List.mem_of_getElem? (i := 11) rfl, (q_in_t2 (i := 149) (by first | rfl | decide +kernel) rfl), (q_in_t1 (i := 12) (by first | rfl | decide +kernel) rfl), (q_in_t2 (i := 150) (by first | rfl | decide +kernel) rfl), rfl, ⟨by decide, by decide, rfl⟩⟩
theorem bw_456 : Cond.fieldLink RX11 73 "CheatHeap" "run" "LCheatHeap$Run;" ∈ q_tbl := (q_in_t2 (i := 216) (by first | rfl | decide +kernel) rfl)
theorem bw_457 : Cond.fieldLink RX11 77 "CheatHeap" "trial" "LCheatHeap$Run;" ∈ q_tbl := (q_in_t2 (i := 217) (by first | rfl | decide +kernel) rfl)
theorem bw_458 : Cond.fieldLink RX11 80 "CheatHeap" "hasPlayed" "Z" ∈ q_tbl := (q_in_t2 (i := 218) (by first | rfl | decide +kernel) rfl)
theorem bw_425 : Cond.instantiable RX10 3 ∈ q_tbl := (q_in_t2 (i := 185) (by first | rfl | decide +kernel) rfl)
theorem bw_13 : Cond.initialized RX10 ∈ q_tbl := (q_in_t1 (i := 13) (by first | rfl | decide +kernel) rfl)
theorem bi_X11_84 : b_okN RX11 84 "CheatHeap" yX10_init cX10_init 1 0 := ⟨List.mem_of_getElem? (i := 12) rfl, (q_in_t2 (i := 187) (by first | rfl | decide +kernel) rfl), (q_in_t1 (i := 13) (by first | rfl | decide +kernel) rfl), (q_in_t2 (i := 188) (by first | rfl | decide +kernel) rfl), rfl, ⟨by decide, by decide, rfl⟩⟩
theorem bw_1424 : Cond.methodLink RX12 1 Lib.objectInit ∈ q_tbl := (q_in_t6 (i := 224) (by first | rfl | decide +kernel) rfl)
theorem bw_1428 : Cond.fieldLink RX12 7 "CheatHeapModel" "under" "J" ∈ q_tbl := (q_in_t6 (i := 228) (by first | rfl | decide +kernel) rfl)
theorem bw_1429 : Cond.fieldLink RX12 13 "CheatHeapModel" "traySort" "[I" ∈ q_tbl := (q_in_t6 (i := 229) (by first | rfl | decide +kernel) rfl)
theorem bw_1430 : Cond.fieldLink RX12 17 "CheatHeapModel" "trayMany" "[I" ∈ q_tbl := (q_in_t6 (i := 230) (by first | rfl | decide +kernel) rfl)
theorem bw_1431 : Cond.fieldLink RX12 20 "CheatHeapModel" "numbers" "[J" ∈ q_tbl := (q_in_t6 (i := 231) (by first | rfl | decide +kernel) rfl)
theorem bw_1432 : Cond.fieldLink RX12 24 "CheatHeapModel" "tape" "[B" ∈ q_tbl := (q_in_t6 (i := 232) (by first | rfl | decide +kernel) rfl)
theorem bw_1435 : Cond.fieldLink RX12 28 "CheatHeapModel" "faultKind" "I" ∈ q_tbl := (q_in_t6 (i := 235) (by first | rfl | decide +kernel) rfl)
theorem bw_1436 : Cond.fieldLink RX12 32 "CheatHeapModel" "faultAt" "I" ∈ q_tbl := (q_in_t6 (i := 236) (by first | rfl | decide +kernel) rfl)
theorem bw_1445 : Cond.fieldLink RX12 35 "CheatHeapModel" "c" "[I" ∈ q_tbl := (q_in_t7 (i := 5) (by first | rfl | decide +kernel) rfl)
theorem bw_1446 : Cond.fieldLink RX12 38 "CheatHeapModel" "kept" "[I" ∈ q_tbl := (q_in_t7 (i := 6) (by first | rfl | decide +kernel) rfl)
theorem bw_1447 : Cond.fieldLink RX12 41 "CheatHeapModel" "handTold" "[I" ∈ q_tbl := (q_in_t7 (i := 7) (by first | rfl | decide +kernel) rfl)
theorem bw_1448 : Cond.fieldLink RX12 44 "CheatHeapModel" "words" "[J" ∈ q_tbl := (q_in_t7 (i := 8) (by first | rfl | decide +kernel) rfl)
theorem bw_1453 : Cond.fieldLink RX12 47 "CheatHeapModel" "lying" "[I" ∈ q_tbl := (q_in_t7 (i := 13) (by first | rfl | decide +kernel) rfl)
theorem bw_1454 : Cond.fieldLink RX12 50 "CheatHeapModel" "asked" "[I" ∈ q_tbl := (q_in_t7 (i := 14) (by first | rfl | decide +kernel) rfl)
theorem bw_1457 : Cond.fieldLink RX12 53 "CheatHeapModel" "left" "[I" ∈ q_tbl := (q_in_t7 (i := 17) (by first | rfl | decide +kernel) rfl)
theorem bw_1461 : Cond.fieldLink RX12 56 "CheatHeapModel" "playedLast" "[I" ∈ q_tbl := (q_in_t7 (i := 21) (by first | rfl | decide +kernel) rfl)
end
