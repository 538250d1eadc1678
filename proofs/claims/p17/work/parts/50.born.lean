/-! CONSTRUCTORS: the world grows -/
abbrev DW : Type := va_G × (Nat → ClassId)
def q_tyD (D : DW) : List (ClassId × FieldType) := [(D.2 0, .byte), (D.2 1, .int), (D.2 2, .long), (D.2 3, .object "CheatHeap$Tray"), (D.2 4, .object "CheatHeap$Game")]
def q_w (X : XW) (σ : ST) (H : Heap) : Prop := q_T X ∧ q_R X σ H ∧ q_B X σ ∧ q_TT X σ ∧ y_Fo X ∧ y_IV X σ
def q_nw (h n : Nat) : Nat → Prop := fun q => q = h ∨ n ≤ q
def q_ext (A : Nat → Prop) (X X' : XW) (σ σ' : ST) : Prop := X'.1 = X.1 ∧ q_sk X' = q_sk X ∧ q_sv X' = q_sv X ∧ (∀ a, q_kd X a ≠ 0 → q_kd X' a = q_kd X a ∧ q_ln X' a = q_ln X a ∧ (∀ f, q_rf X' a f = q_rf X a f) ∧ ∀ f, σ'.1 a f = σ.1 a f) ∧ ∀ a, q_kd X' a ≠ 0 → q_kd X a ≠ 0 ∨ A a
theorem q_ext.rf {A : Nat → Prop} {X : XW} {σ : ST} : q_ext A X X σ σ := ⟨rfl, rfl, rfl, fun _ _ => ⟨rfl, rfl, fun _ => rfl, fun _ => rfl⟩, fun _ h => Or.inl h⟩
theorem q_ext.tr {A B : Nat → Prop} {X X1 X2 : XW} {σ σ1 σ2 : ST} (h : q_ext A X X1 σ σ1) (k : q_ext B X1 X2 σ1 σ2) (hb : ∀ a, B a → A a) : q_ext A X X2 σ σ2 := by
  obtain ⟨h1, h2, h3, h4, h5⟩ := h
  obtain ⟨k1, k2, k3, k4, k5⟩ := k
  refine ⟨k1.trans h1, k2.trans h2, k3.trans h3, fun a ha => ?_, fun a ha => ?_⟩
  · obtain ⟨p1, p2, p3, p4⟩ := h4 a ha
    obtain ⟨r1, r2, r3, r4⟩ := k4 a (by rw [p1]; exact ha)
    exact ⟨r1.trans p1, r2.trans p2, fun f => (r3 f).trans (p3 f), fun f => (r4 f).trans (p4 f)⟩
  · rcases k5 a ha with q | q
    · exact h5 a q
    · exact Or.inr (hb a q)
theorem q_ext.kd {A : Nat → Prop} {X X' : XW} {σ σ' : ST} {a k : Nat} (h : q_ext A X X' σ σ') (ha : q_kd X a = k) (hk : k ≠ 0) : q_kd X' a = k := ((h.2.2.2.1 a (by rw [ha]; exact hk)).1).trans ha
theorem q_ext.k0 {A : Nat → Prop} {X X' : XW} {σ σ' : ST} {a : Nat} (h : q_ext A X X' σ σ') (ha : q_kd X a = 0) (hA : ¬ A a) : q_kd X' a = 0 := by
  by_cases q : q_kd X' a = 0
  · exact q
  · rcases h.2.2.2.2 a q with w | w
    · exact absurd ha w
    · exact absurd w hA
def q_xg (X : XW) (h k n : Nat) (rf : Nat → Nat) : XW := (X.1, (fun a => if a = h then k else q_kd X a), (fun a f => if a = h then rf f else q_rf X a f), (fun a => if a = h then n else q_ln X a), q_sk X, q_sv X)
def q_sg (σ : ST) (h : Nat) (iv : Nat → Int32) (lv : Nat → Int64) (t : Nat) : ST := ((fun a f => if a = h then iv f else σ.1 a f), (fun a f => if a = h then lv f else σ.2.1 a f), fun a => if a = h then t else σ.2.2 a)
theorem q_xg_h {X : XW} {h k n : Nat} {rf : Nat → Nat} : q_kd (q_xg X h k n rf) h = k := if_pos rfl
theorem q_xg_ne {X : XW} {h k n a : Nat} {rf : Nat → Nat} (q : a ≠ h) : q_kd (q_xg X h k n rf) a = q_kd X a := if_neg q
theorem q_w.lt {X : XW} {σ : ST} {H : Heap} (w : q_w X σ H) {a : Nat} (ha : q_kd X a ≠ 0) : a < H.size := by
  have c := w.2.1 a ha
  by_cases q : q_kd X a < 20
  · obtain ⟨r, -, cell, h1, -⟩ := c.1 q
    exact (Array.getElem?_eq_some_iff.mp h1).1
  · exact (Array.getElem?_eq_some_iff.mp (c.2 (by omega))).1
theorem q_w.kept {X : XW} {σ : ST} {H H1 : Heap} (w : q_w X σ H) (hq : ∀ a, q_kd X a ≠ 0 → H1[a]? = H[a]?) : q_w X σ H1 := ⟨w.1, fun a ha => (w.2.1 a ha).ne (fun _ => rfl) (fun _ => rfl) rfl (hq a ha), w.2.2⟩
theorem q_w.fresh {X : XW} {σ : ST} {H : Heap} (w : q_w X σ H) {a : Nat} (ha : H.size ≤ a) : q_kd X a = 0 := by
  by_cases q : q_kd X a = 0
  · exact q
  · have := w.lt q
    omega
theorem y_xg {X : XW} {h k n : Nat} {rf : Nat → Nat} : y_ad1 X (q_xg X h k n rf) h k n rf := ⟨fun _ => rfl, fun _ _ => rfl, fun _ => rfl⟩
theorem y_IV.add {X : XW} {σ : ST} {h k n t : Nat} {rf : Nat → Nat} {iv : Nat → Int32} {lv : Nat → Int64} (I : y_IV X σ) (hiv : y_ik k = true → ∀ f, (20 ≤ k ∨ f < 60) → iv f = y_iv k f ∧ lv f = y_il k f) : y_IV (q_xg X h k n rf) (q_sg σ h iv lv t) := by
  intro a ha f hf
  by_cases q : a = h
  · subst q
    rw [q_xg_h] at ha hf ⊢
    have z := hiv ha f hf
    show (if a = a then iv f else σ.1 a f) = _ ∧ (if a = a then lv f else σ.2.1 a f) = _
    rw [if_pos rfl, if_pos rfl]
    exact z
  · rw [q_xg_ne q] at ha hf ⊢
    have z := I a ha f hf
    show (if a = h then iv f else σ.1 a f) = _ ∧ (if a = h then lv f else σ.2.1 a f) = _
    rw [if_neg q, if_neg q]
    exact z
theorem q_w.add {X : XW} {σ : ST} {H : Heap} {h k n t : Nat} {rf : Nat → Nat} {iv : Nat → Int32} {lv : Nat → Int64} (w : q_w X σ H) (h0 : q_kd X h = 0) (hrk : ∀ f, q_rk k f ≠ 0 → q_kd X (rf f) = q_rk k f) (hll : q_ll k ≠ 0 → n = q_ll k) (hn : n < 1000000) (h11 : k = 11 → q_ln X (rf 4) = 900 ∧ q_kd X (rf 4) ≠ 0) (hB : ∀ f, q_in (q_bn k f) (iv f)) (ht : k = 4 ∨ k = 9 → q_kd X t = 22) (hc : q_cf (q_xg X h k n rf) (q_sg σ h iv lv t) h H) (hup : ∀ f, q_rk k f ≠ 0 → h < rf f) (hinj : ∀ f g, q_rk k f ≠ 0 → q_rk k g ≠ 0 → rf f = rf g → f = g) (hroot : ∀ f, q_rk k f ≠ 0 → y_root X (rf f)) (hrow : ∀ f, q_rk k f = 5 → q_ln X (q_rf X (rf f) 0) = y_rl k f) (hiv : y_ik k = true → ∀ f, (20 ≤ k ∨ f < 60) → iv f = y_iv k f ∧ lv f = y_il k f) : q_w (q_xg X h k n rf) (q_sg σ h iv lv t) H := by
  have hT := w.1
  obtain ⟨⟨t1, t2, t3, t4⟩, wR, wB, wT, wF, wI⟩ := w
  have ne : ∀ a, q_kd X a ≠ 0 → a ≠ h := fun a ha e => ha (by rw [e]; exact h0)
  refine ⟨⟨fun a f hf => ?_, fun a ha => ?_, fun a => ?_, fun a ha => ?_⟩, fun a ha => ?_, fun a f => ?_, fun a ha => ?_, wF.add hT y_xg h0 hrk hup hinj hroot hrow, wI.add hiv⟩
  · by_cases q : a = h
    · subst q
      rw [q_xg_h] at hf ⊢
      show q_kd (q_xg X a k n rf) (if a = a then rf f else q_rf X a f) = _
      rw [if_pos rfl]
      have z := hrk f hf
      rw [q_xg_ne (ne _ (by rw [z]; exact hf))]
      exact z
    · rw [q_xg_ne q] at hf ⊢
      show q_kd (q_xg X h k n rf) (if a = h then rf f else q_rf X a f) = _
      rw [if_neg q]
      have z := t1 a f hf
      rw [q_xg_ne (ne _ (by rw [z]; exact hf))]
      exact z
  · show (if a = h then n else q_ln X a) = _
    by_cases q : a = h
    · subst q
      rw [q_xg_h] at ha ⊢
      rw [if_pos rfl]
      exact hll ha
    · rw [q_xg_ne q] at ha ⊢
      rw [if_neg q]
      exact t2 a ha
  · show (if a = h then n else q_ln X a) < _
    by_cases q : a = h
    · rw [if_pos q]; exact hn
    · rw [if_neg q]; exact t3 a
  · by_cases q : a = h
    · subst q
      rw [q_xg_h] at ha
      have z := h11 ha
      show (if (if a = a then rf 4 else q_rf X a 4) = a then n else q_ln X (if a = a then rf 4 else q_rf X a 4)) = 900
      rw [if_pos rfl, if_neg (ne _ z.2)]
      exact z.1
    · rw [q_xg_ne q] at ha
      show (if (if a = h then rf 4 else q_rf X a 4) = h then n else q_ln X (if a = h then rf 4 else q_rf X a 4)) = 900
      rw [if_neg q]
      have z := t1 a 4 (by rw [ha]; decide)
      rw [if_neg (ne _ (by rw [z, ha]; decide))]
      exact t4 a ha
  · by_cases q : a = h
    · rw [q]; exact hc
    · rw [q_xg_ne q] at ha
      have c := wR a ha
      have e1 : q_fvk (q_xg X h k n rf) (q_sg σ h iv lv t) (q_kd X a) a = q_fvk X σ (q_kd X a) a := by
        funext f
        unfold q_fvk
        show (match q_ft (q_kd X a) f with | 0 => Value.int (if a = h then iv f else σ.1 a f) | 1 => .long (if a = h then lv f else σ.2.1 a f) | 2 => .ref (if a = h then rf f else q_rf X a f) | _ => .ref (if a = h then t else σ.2.2 a)) = _
        rw [if_neg q, if_neg q, if_neg q, if_neg q]
        rfl
      have e2 : q_av (q_xg X h k n rf) (q_sg σ h iv lv t) (q_kd X a) a = q_av X σ (q_kd X a) a := by
        funext f
        unfold q_av
        show (match q_et (q_kd X a) with | 0 => Value.int (if a = h then iv f else σ.1 a f) | 1 => .int (if a = h then iv f else σ.1 a f) | 2 => .long (if a = h then lv f else σ.2.1 a f) | _ => .ref (if a = h then rf f else q_rf X a f)) = _
        rw [if_neg q, if_neg q, if_neg q]
        rfl
      have e3 : q_ln (q_xg X h k n rf) a = q_ln X a := if_neg q
      refine ⟨fun hk => ?_, fun hk => ?_⟩
      · rw [q_xg_ne q] at hk ⊢
        rw [e1]
        exact c.1 hk
      · rw [q_xg_ne q] at hk ⊢
        rw [e2, e3]
        exact c.2 hk
  · show q_in _ (if a = h then iv f else σ.1 a f)
    by_cases q : a = h
    · rw [if_pos q, q, q_xg_h]; exact hB f
    · rw [if_neg q, q_xg_ne q]; exact wB a f
  · show q_kd (q_xg X h k n rf) (if a = h then t else σ.2.2 a) = 22
    by_cases q : a = h
    · rw [if_pos q]
      rw [q, q_xg_h] at ha
      have z := ht ha
      rw [q_xg_ne (ne _ (by rw [z]; decide))]
      exact z
    · rw [if_neg q]
      rw [q_xg_ne q] at ha
      have z := wT a ha
      rw [q_xg_ne (ne _ (by rw [z]; decide))]
      exact z
theorem q_ext.add {X : XW} {σ : ST} {h k n t : Nat} {rf : Nat → Nat} {iv : Nat → Int32} {lv : Nat → Int64} (h0 : q_kd X h = 0) : q_ext (fun a => a = h) X (q_xg X h k n rf) σ (q_sg σ h iv lv t) := by
  refine ⟨rfl, rfl, rfl, fun a ha => ?_, fun a ha => ?_⟩
  · have q : a ≠ h := fun e => ha (by rw [e]; exact h0)
    exact ⟨q_xg_ne q, if_neg q, fun f => if_neg q, fun f => if_neg q⟩
  · by_cases q : a = h
    · exact Or.inr q
    · rw [q_xg_ne q] at ha
      exact Or.inl ha
/-- an object's fields, as the world and the state say -/
theorem q_fvg {X : XW} {σ : ST} {h k n t : Nat} {rf : Nat → Nat} {iv : Nat → Int32} {lv : Nat → Int64} (f : Nat) : q_fvk (q_xg X h k n rf) (q_sg σ h iv lv t) k h f = (match q_ft k f with | 0 => Value.int (iv f) | 1 => .long (lv f) | 2 => .ref (rf f) | _ => .ref t) := by
  unfold q_fvk
  show (match q_ft k f with | 0 => Value.int (if h = h then iv f else σ.1 h f) | 1 => .long (if h = h then lv f else σ.2.1 h f) | 2 => .ref (if h = h then rf f else q_rf X h f) | _ => .ref (if h = h then t else σ.2.2 h)) = _
  rw [if_pos rfl, if_pos rfl, if_pos rfl, if_pos rfl]
theorem t_lt {o : Nat} {cC : ClassId} {N : Nat} {iS : Nat → Nat} {H : Heap} {V : Nat → Value} (h : t_OB o cC N iS H V) : o < H.size := by
  obtain ⟨cell, h1, -⟩ := h
  exact (Array.getElem?_eq_some_iff.mp h1).1
theorem t_cell {o : Nat} {cC : ClassId} {N : Nat} {iS : Nat → Nat} {H : Heap} {V : Nat → Value} (h : t_OB o cC N iS H V) : ∃ cv : Cell, H[o]? = some cv ∧ cv.cls = cC ∧ cv.vm = .none := by
  obtain ⟨cell, h1, h2, h3, -⟩ := h
  exact ⟨cell, h1, h2, h3⟩
theorem q_rk_hi {k f : Nat} (h : 40 ≤ f) : q_rk k f = 0 := by
  unfold q_rk
  split <;> first | rfl | (split <;> first | rfl | omega)
theorem q_bn_hi (k f : Nat) (h : 40 ≤ f) : (q_bn k f).1 ≤ 0 ∧ 0 ≤ (q_bn k f).2 := by
  unfold q_bn
  split <;> first | decide | (split <;> first | decide | omega)
theorem q_hB {k : Nat} {L : List Int32} (h : ∀ f, f < 40 → (q_bn k f).1 ≤ (L.getD f 0).toInt ∧ (L.getD f 0).toInt ≤ (q_bn k f).2) (hl : L.length ≤ 40) (f : Nat) : q_in (q_bn k f) (L.getD f 0) := by
  by_cases q : f < 40
  · exact h f q
  · have e : L.getD f 0 = 0 := by
      rw [List.getD_eq_getElem?_getD, List.getElem?_eq_none (by omega)]
      rfl
    rw [e]
    exact q_bn_hi k f (by omega)
theorem q_hrk {X : XW} {k : Nat} {L : List Nat} (h : ∀ f, f < 40 → q_rk k f ≠ 0 → q_kd X (L.getD f 0) = q_rk k f) (f : Nat) (hf : q_rk k f ≠ 0) : q_kd X (L.getD f 0) = q_rk k f := by
  by_cases q : f < 40
  · exact h f q hf
  · exact absurd (q_rk_hi (by omega)) hf
theorem raw_lt {H : Heap} {r : Nat} {c : Cell} (h : H[r]? = some c) : r < H.size := (Array.getElem?_eq_some_iff.mp h).1
theorem q_cfO {D : DW} {X : XW} {σ : ST} {H : Heap} {h k ci N t : Nat} {C : String} {T : u_T} {rf : Nat → Nat} {iv : Nat → Int32} {lv : Nat → Int64} {V : Nat → Value} (hD : X.1 = D) (hk : k = ci + 1 ∧ k < 20) (hc : vwCl[ci]? = some (C, T, N)) (ob : t_OB h (D.1.1 ci) N (D.1.2 ci) H V) (hv : ∀ f, f < N → V f = (match q_ft k f with | 0 => Value.int (iv f) | 1 => .long (lv f) | 2 => .ref (rf f) | _ => .ref t)) : q_cf (q_xg X h k 0 rf) (q_sg σ h iv lv t) h H := by
  obtain ⟨rfl, h20⟩ := hk
  subst hD
  refine ⟨fun _ => ?_, fun q => absurd q (by rw [q_xg_h]; omega)⟩
  rw [q_xg_h]
  refine ⟨_, hc, ?_⟩
  refine t_OB.to (V := V) ob (fun f hf => ?_)
  rw [hv f hf, q_fvg]
def q_avm (t0 : Nat) (iv : Nat → Int32) (lv : Nat → Int64) (rf : Nat → Nat) (j : Nat) : Value := match t0 with | 0 => Value.int (iv j) | 1 => .int (iv j) | 2 => .long (lv j) | _ => .ref (rf j)
theorem q_cfA {D : DW} {X : XW} {σ : ST} {H : Heap} {h k n t t0 : Nat} {rf : Nat → Nat} {iv : Nat → Int32} {lv : Nat → Int64} {g : Nat → Value} (hD : X.1 = D) (hk : 20 ≤ k) (he : q_et k = t0) (ha : H[h]? = some (arrV (D.2 t0) n g)) (hv : ∀ j, g j = q_avm t0 iv lv rf j) : q_cf (q_xg X h k n rf) (q_sg σ h iv lv t) h H := by
  subst hD
  subst he
  refine ⟨fun q => absurd q (by rw [q_xg_h]; omega), fun _ => ?_⟩
  have e3 : q_ln (q_xg X h k n rf) h = n := if_pos rfl
  have e4 : q_av (q_xg X h k n rf) (q_sg σ h iv lv t) k h = g := by
    funext j
    rw [hv j]
    unfold q_av q_avm
    show (match q_et k with | 0 => Value.int (if h = h then iv j else σ.1 h j) | 1 => .int (if h = h then iv j else σ.1 h j) | 2 => .long (if h = h then lv j else σ.2.1 h j) | _ => .ref (if h = h then rf j else q_rf X h j)) = _
    rw [if_pos rfl, if_pos rfl, if_pos rfl]
  rw [q_xg_h, e3, e4]
  exact ha
theorem y_rlx {A : Nat → Prop} {X X' : XW} {σ σ' : ST} {c n : Nat} (hx : q_ext A X X' σ σ') (T : q_T X) (hc : q_kd X c = 5) (h : q_ln X (q_rf X c 0) = n) : q_ln X' (q_rf X' c 0) = n := by
  have k20 : q_kd X (q_rf X c 0) = 20 := (T.1 c 0 (by rw [hc]; decide)).trans (by rw [hc]; rfl)
  have e1 := (hx.2.2.2.1 c (by rw [hc]; decide)).2.2.1 0
  have e2 := (hx.2.2.2.1 (q_rf X c 0) (by rw [k20]; decide)).2.1
  rw [e1, e2]
  exact h
/-! rows of a constructor -/
def q_E0 (p : Program) (c : Code) (cc : ByteArray) (s : State) (m : MethodId) (args : Array Value) (own : String) (D : DW) : Prop :=
  p.tables.exec = Jvm.exec ∧ c.code = cc ∧ s.vm.findClass own = some m.cls ∧ (∀ w ∈ q_tbl, w.before args s = true) ∧ va_K D.1 vwCl (q_tyD D) s ∧ q_NW s ∧ va_AO "CheatHeap$Tray" s ∧ va_AO "CheatHeap$Game" s
def q_K0 (D : DW) (U : State) : Prop := va_K D.1 vwCl (q_tyD D) U ∧ q_NW U ∧ va_AO "CheatHeap$Tray" U ∧ va_AO "CheatHeap$Game" U
section QN
variable {p : Program} {l : Launch} {e : Env} {R : Room} {s : State} {m : MethodId} {args : Array Value} {below : List Frame} {meth : Method} {c : Code} {H : Heap} {locs : List Loc} {cells slots : Nat} {Q : State → Prop} {cc : ByteArray} {own : String} {D : DW} {A : Nat → Prop} {H0 : Heap} {pc : Nat} {ls : Array Slot} {rest : List Value} {h : Nat}
/-- new -/
theorem b_new (E : q_E0 p c cc s m args own D) (hS : va_S A H0 H locs) {C : String} {T : u_T} {N ci index : Nat} (hcl : Cond.classLink own index C ∈ q_tbl) (hinst : Cond.instantiable C N ∈ q_tbl) (hini : Cond.initialized C ∈ q_tbl) (hc : vwCl[ci]? = some (C, T, N)) (hin : ∀ w ∈ u_ws C T N, w ∈ q_tbl) (ty : Nat → FieldType) (hty : ∀ k, k < N → parseFieldDescriptor (T k).2.2.1 = some (ty k)) (hcells : cells + 1 ≤ R.cells) (hslots : slots + N ≤ R.slots) (hdg : decode cc pc = .ok (.new index, 3))
    (kk : ∀ (q : Nat) (H1 : Heap), q = H.size → H1.size = H.size + 1 → (∀ a, a < H.size → H1[a]? = H[a]?) → t_OB q (D.1.1 ci) N (D.1.2 ci) H1 (fun k => defaultValue (ty k)) → va_S A H0 H1 locs → W p l e R s m args below meth c H1 locs (cells + 1) (slots + N) Q (F0 m (pc + 3) ls (.ref q :: rest))) : W p l e R s m args below meth c H locs cells slots Q (F0 m pc ls rest) := by
  obtain ⟨hx, hb, hown, hts, hK, -⟩ := E
  have hKn := hK.1 ci _ hc
  refine W.newcK hx hb hown (hts _ hcl) (hts _ hinst) (hts _ hini) rfl hdg hcells hslots hKn.2.1 rfl fun H1 kC hkC e1 z1 o1 => ?_
  exact kk H.size H1 rfl z1 o1 (u_born ty hts hin hKn hkC e1 hty) ⟨Nat.le_trans hS.1 (by omega), fun x h1 h2 => (o1 x (Nat.lt_of_lt_of_le h1 hS.1)).trans (hS.2.1 x h1 h2), hS.2.2⟩
/-- newarray -/
theorem b_newa (E : q_E0 p c cc s m args own D) (hS : va_S A H0 H locs) {atype : ArrayType} (harr : Cond.arrayClass (newarray.typeOf atype) ∈ q_tbl) {t : Nat} (ht : (q_tyD D)[t]? = some (D.2 t, newarray.typeOf atype)) (hnm : ∀ U cA, va_RA U cA (newarray.typeOf atype) = (U.vm.findClass ("[" ++ (newarray.typeOf atype).toString) = some cA)) {n : Int32} {N' : Nat} (hn : 0 ≤ n.toInt) (hN : n.toNatClampNeg = N') (hbytes : N' * componentBytes (newarray.typeOf atype) ≤ 536870912) (hcells : cells + 1 ≤ R.cells) (hslots : slots + N' ≤ R.slots) (hdg : decode cc pc = .ok (.newarray atype, 2))
    (kk : ∀ (q : Nat) (H1 : Heap), q = H.size → H1.size = H.size + 1 → (∀ a, a < H.size → H1[a]? = H[a]?) → H1[q]? = some (arrV (D.2 t) N' (fun _ => defaultValue (newarray.typeOf atype))) → va_S A H0 H1 locs → W p l e R s m args below meth c H1 locs (cells + 1) (slots + N') Q (F0 m (pc + 2) ls (.ref q :: rest))) : W p l e R s m args below meth c H locs cells slots Q (F0 m pc ls (.int n :: rest)) := by
  obtain ⟨hx, hb, hown, hts, hK, -⟩ := E
  refine va_newaK hx hb (hts _ harr) rfl hdg rfl (fun q => by rw [Int32.lt_iff_toInt_lt, q_z0] at q; omega) hN hbytes hcells hslots rfl fun H1 cA e1 z1 o1 hAr hNm => ?_
  have w := (hK.2 t _ ht).2
  rw [hnm] at w
  have e : cA = D.2 t := Option.some.inj (hNm.symm.trans w)
  rw [e] at e1
  exact kk H.size H1 rfl z1 o1 e1 ⟨Nat.le_trans hS.1 (by omega), fun x h1 h2 => (o1 x (Nat.lt_of_lt_of_le h1 hS.1)).trans (hS.2.1 x h1 h2), hS.2.2⟩
/-- anewarray -/
theorem b_newq (E : q_E0 p c cc s m args own D) (hS : va_S A H0 H locs) {C : String} {index t : Nat} (hcl : Cond.classLink own index C ∈ q_tbl) (hao : va_AO C s) (ht : (q_tyD D)[t]? = some (D.2 t, .object C)) {n : Int32} {N' : Nat} (hn : 0 ≤ n.toInt) (hN : n.toNatClampNeg = N') (hbytes : N' * 4 ≤ 536870912) (hcells : cells + 1 ≤ R.cells) (hslots : slots + N' ≤ R.slots) (hdg : decode cc pc = .ok (.anewarray index, 3))
    (kk : ∀ (q : Nat) (H1 : Heap), q = H.size → H1.size = H.size + 1 → (∀ a, a < H.size → H1[a]? = H[a]?) → H1[q]? = some (arrV (D.2 t) N' (fun _ => .null)) → va_S A H0 H1 locs → W p l e R s m args below meth c H1 locs (cells + 1) (slots + N') Q (F0 m (pc + 3) ls (.ref q :: rest))) : W p l e R s m args below meth c H locs cells slots Q (F0 m pc ls (.int n :: rest)) := by
  obtain ⟨hx, hb, hown, hts, hK, -⟩ := E
  subst hN
  refine W.anew hx hb hown (hts _ hcl) (va_AO.use hao) rfl hdg rfl (fun q => by rw [Int32.lt_iff_toInt_lt, q_z0] at q; omega) hbytes hcells hslots fun cA kA comp f1 f2 f3 f4 => ?_
  obtain ⟨kA', comp', -, -, -, w4⟩ := (hK.2 t _ ht).2
  have e : cA = D.2 t := Option.some.inj (f1.symm.trans w4)
  generalize hH1 : H.push ({ cls := cA, slots := Array.replicate n.toNatClampNeg .null, vm := .none } : Cell) = H1
  have z1 : H1.size = H.size + 1 := by rw [← hH1, Array.size_push]
  have e1 : H1[H.size]? = some (arrV cA n.toNatClampNeg (fun _ => .null)) := by rw [← hH1, Array.getElem?_push_size, ← arrV_new]
  have o1 : ∀ q : Nat, q < H.size → H1[q]? = H[q]? := fun q hq => by rw [← hH1, Array.getElem?_push, if_neg (Nat.ne_of_lt hq)]
  rw [e] at e1
  exact kk H.size H1 rfl z1 o1 e1 ⟨Nat.le_trans hS.1 (by omega), fun x h1 h2 => (o1 x (Nat.lt_of_lt_of_le h1 hS.1)).trans (hS.2.1 x h1 h2), hS.2.2⟩
/-- putfield of an object that is being made -/
theorem b_put (E : q_E0 p c cc s m args own D) (hS : va_S A H0 H locs) (hAh : A h) (hin2 : meth.name = "<init>") {ci N index f : Nat} {C ref : String} {T : u_T} {ty0 : Nat → FieldType} {V : Nat → Value} {v : Value} (ob : t_OB h (D.1.1 ci) N (D.1.2 ci) H V) (hc : vwCl[ci]? = some (C, T, N)) (hin : ∀ w ∈ u_ws C T N, w ∈ q_tbl) (hty : ∀ k, k < N → parseFieldDescriptor (T k).2.2.1 = some (ty0 k)) (hnm : ∀ a, a < N → ∀ b, b < N → a ≠ b → (T a).2.1 ≠ (T b).2.1) (hf : f < N)
    (hlink : Cond.fieldLink own index ref (T f).2.1 (T f).2.2.1 ∈ q_tbl) (hsame : ref = (T f).1) (hdecl : (T f).2.2.2 = true → (T f).1 = own) {ty : FieldType} (hd : parseFieldDescriptor (T f).2.2.1 = some ty) (hn : narrow ty v = v) (hfit : fits ty v = true) (hdg : decode cc pc = .ok (.putfield index, 3))
    (kk : ∀ (H1 : Heap) (locs1 : List Loc), H1.size = H.size → (∀ a, a ≠ h → H1[a]? = H[a]?) → t_OB h (D.1.1 ci) N (D.1.2 ci) H1 (updV V f v) → va_S A H0 H1 locs1 → W p l e R s m args below meth c H1 locs1 cells slots Q (F0 m (pc + 3) ls rest)) : W p l e R s m args below meth c H locs cells slots Q (F0 m pc ls (v :: .ref h :: rest)) := by
  obtain ⟨hx, hb, hown, hts, hK, -⟩ := E
  obtain ⟨cell, q1, q2, q3, q4⟩ := ob
  have hap := va_apart (own := own) hts hin ty0 hty hnm hK hc
  obtain ⟨hSl, hfc, kC, hkC, hkind⟩ := hK.1 ci _ hc
  obtain ⟨cf, kf, fi, fd, hi, hsl⟩ := hSl f hf
  have hi' : s.fieldFound? ref (T f).2.1 (T f).2.2.1 = some (cf, kf, fi, fd) := by rw [hsame]; exact hi
  have hlay := hts _ (hin _ (u_in_lay hf))
  have hst := (u_facts hfc hkC (u_lays hts hin hf) hi).1
  unfold u_lay at hlay
  by_cases hfin : (T f).2.2.2 = true
  · rw [if_pos hfin] at hlay
    have hcf : m.cls = cf := by
      obtain ⟨_, _, c', _, _, _, -, -, hf', -, -, -, hown2, -⟩ := Cond.laysFinal_spec hlay
      have e1 : c' = cf := by have := hi.symm.trans hf'; simp at this; exact this.1.symm
      rw [hdecl hfin] at hown2
      rw [← e1]; exact Option.some.inj (hown.symm.trans hown2)
    have h6 := u_fits hfc hkC hkind (Or.inr hlay) hi hd hn hfit
    refine W.putFinK hx hb hown (hts _ hlink) hi' hst hcf hin2 (by rw [q2]; exact h6) q1 q3 (by rw [hsl]; exact k2_hasslot (q4 f hf)) rfl rfl hdg fun H' g1 g2 g3 => ?_
    rw [hsl] at g1 ⊢
    exact kk H' _ g2 g3 ⟨_, g1, q2, q3, t_set q4 hap hf v⟩ (hS.put g2 g3 hAh)
  · rw [if_neg hfin] at hlay
    have h6 := u_store hfc hkC hkind hlay hi hd hn hfit
    refine W.putK hx hb (f := fd) ⟨hown, hts _ hlink, ⟨_, _, _, hi'⟩, hst⟩ (by rw [q2]; exact h6) q1 q3 (by rw [hsl]; exact k2_hasslot (q4 f hf)) rfl rfl hdg fun H' g1 g2 g3 => ?_
    rw [hsl] at g1 ⊢
    exact kk H' _ g2 g3 ⟨_, g1, q2, q3, t_set q4 hap hf v⟩ (hS.put g2 g3 hAh)
/-- getfield of an object that is being made -/
theorem b_get (E : q_E0 p c cc s m args own D) {ci N index f : Nat} {C ref : String} {T : u_T} {V : Nat → Value} {v : Value} (ob : t_OB h (D.1.1 ci) N (D.1.2 ci) H V) (hc : vwCl[ci]? = some (C, T, N)) (hin : ∀ w ∈ u_ws C T N, w ∈ q_tbl) (hf : f < N) (hlink : Cond.fieldLink own index ref (T f).2.1 (T f).2.2.1 ∈ q_tbl) (hsame : ref = (T f).1) (hv : V f = v) (hdg : decode cc pc = .ok (.getfield index, 3))
    (kk : W p l e R s m args below meth c H locs cells slots Q (F0 m (pc + 3) ls (v :: rest))) : W p l e R s m args below meth c H locs cells slots Q (F0 m pc ls (.ref h :: rest)) := by
  obtain ⟨hx, hb, hown, hts, hK, -⟩ := E
  obtain ⟨cell, q1, q2, q3, q4⟩ := ob
  obtain ⟨hSl, hfc, kC, hkC, hkind⟩ := hK.1 ci _ hc
  obtain ⟨cf, kf, fi, fd, hi, hsl⟩ := hSl f hf
  have hi' : s.fieldFound? ref (T f).2.1 (T f).2.2.1 = some (cf, kf, fi, fd) := by rw [hsame]; exact hi
  have hst := (u_facts hfc hkC (u_lays hts hin hf) hi).1
  refine W.getf hx hb hown (hts _ hlink) hi' hst q1 (by rw [q3]; exact fun h => by cases h) (v := v) ?_ rfl rfl hdg kk
  rw [hsl, q4 f hf, hv]
/-- a cell of an array of ints that is being made -/
theorem b_iast (E : q_E0 p c cc s m args own D) (hS : va_S A H0 H locs) {r n : Nat} (hAr : A r) {g : Nat → Int32} (hr : H[r]? = some (arrV (D.2 1) n (fun j => Value.int (g j)))) {i v : Int32} (h0 : 0 ≤ i.toInt) (h1 : i.toInt < n) (hdg : decode cc pc = .ok (.iastore, 1))
    (kk : ∀ (H1 : Heap) (locs1 : List Loc), H1.size = H.size → (∀ a, a ≠ r → H1[a]? = H[a]?) → H1[r]? = some (arrV (D.2 1) n (fun j => Value.int (if j = i.toNatClampNeg then v else g j))) → va_S A H0 H1 locs1 → W p l e R s m args below meth c H1 locs1 cells slots Q (F0 m (pc + 1) ls rest)) : W p l e R s m args below meth c H locs cells slots Q (F0 m pc ls (.int v :: .int i :: .ref r :: rest)) := by
  obtain ⟨hx, hb, hown, hts, hK, -⟩ := E
  have hin : vp_in i n := vp_in_iff.mpr ⟨h0, h1⟩
  refine W.iast hx hb hr ((hK.2 1 _ rfl).1 _ _) (fun q => by cases q) (by rw [arrV_size]; exact hin) rfl rfl hdg fun H1 g1 g2 g3 => ?_
  refine kk H1 _ g2 g3 ?_ (hS.put g2 g3 hAr)
  rw [g1, arrV_store]
  congr 2
  funext j
  unfold updV
  by_cases hj : j = i.toNatClampNeg
  · rw [if_pos hj, if_pos hj]
  · rw [if_neg hj, if_neg hj]
/-- a place of an array of objects that is being made -/
theorem b_aast (E : q_E0 p c cc s m args own D) (hS : va_S A H0 H locs) {r n t ci N v : Nat} {C : String} {T : u_T} (hAr : A r) (ht : (q_tyD D)[t]? = some (D.2 t, .object C)) (hc : vwCl[ci]? = some (C, T, N)) {g : Nat → Value} (hr : H[r]? = some (arrV (D.2 t) n g)) (hv : ∃ cv : Cell, H[v]? = some cv ∧ cv.cls = D.1.1 ci ∧ cv.vm = .none) {i : Int32} (h0 : 0 ≤ i.toInt) (h1 : i.toInt < n) (hdg : decode cc pc = .ok (.aastore, 1))
    (kk : ∀ (H1 : Heap) (locs1 : List Loc), H1.size = H.size → (∀ a, a ≠ r → H1[a]? = H[a]?) → H1[r]? = some (arrV (D.2 t) n (updV g i.toNatClampNeg (.ref v))) → va_S A H0 H1 locs1 → W p l e R s m args below meth c H1 locs1 cells slots Q (F0 m (pc + 1) ls rest)) : W p l e R s m args below meth c H locs cells slots Q (F0 m pc ls (.ref v :: .int i :: .ref r :: rest)) := by
  obtain ⟨hx, hb, hown, hts, hK, -⟩ := E
  obtain ⟨kA, comp, w1, w2, w3, w4⟩ := (hK.2 t _ ht).2
  obtain ⟨hSl, hfc, kC, hkC, hkind⟩ := hK.1 ci _ hc
  obtain ⟨cv, v1, v2, v3⟩ := hv
  have e : comp = D.1.1 ci := Option.some.inj (w3.symm.trans hfc)
  refine W.aast hx hb hr (fun q z => by cases z) (fun z => by cases z) w1 w2 rfl (by rw [e]; exact hkC) ⟨fun q => by rw [Int32.lt_iff_toInt_lt, q_z0] at q; omega, by rw [arrV_size, q_cn]; omega⟩ v1 (fun q z => by rw [v3] at z; cases z) (by rw [v2]; exact hkC) (by rw [v2, e]; exact va_asg _ _) rfl rfl hdg fun H1 g1 g2 g3 => ?_
  refine kk H1 _ g2 g3 ?_ (hS.put g2 g3 hAr)
  rw [g1, arrV_store]
end QN
/-! contracts of constructors -/
abbrev q_PN (D : DW) (X : XW) (σ : ST) (h sz ci N : Nat) (V : Nat → Value) (av : List Value) : Array Value → State → Prop := va_Pc av (fun U => U.heap.size = sz ∧ X.1 = D ∧ q_w X σ U.heap ∧ q_kd X h = 0 ∧ t_OB h (D.1.1 ci) N (D.1.2 ci) U.heap V ∧ q_K0 D U)
abbrev q_QN (X : XW) (σ : ST) (h sz k : Nat) (post : XW → ST → Prop) : Array Value → State → Outcome → State → Prop := va_Qv (S := XW × ST) (fun u => q_ext (q_nw h sz) X u.1 σ u.2 ∧ q_kd u.1 h = k ∧ post u.1 u.2) (fun u t => q_w u.1 u.2 t.heap) (q_nw h sz)
theorem q_K0.alike {D : DW} {u U : State} (hW : u.vm.Alike U.vm) (hN : q_NW U) (h : q_K0 D u) (a1 : va_AO "CheatHeap$Tray" U) (a2 : va_AO "CheatHeap$Game" U) : q_K0 D U := ⟨va_K.moved hW h.1, hN, a1, a2⟩
theorem q_blindN {D : DW} {X : XW} {σ : ST} {h sz ci N : Nat} {V : Nat → Value} {av : List Value} : FrameBlind (q_PN D X σ h sz ci N V av) := by
  rintro a U g mk ⟨h1, hs, hD, hw, h0, hO, hK, hN, hA, hA2⟩
  exact ⟨h1, hs, hD, hw, h0, hO, va_K.moved (u := U) (U := U.calling g mk a) (Vm.Alike.refl U.vm) hK, fun r hr => va_Nw.same (u := U) (U := U.calling g mk a) rfl rfl (hN r hr), hA, hA2⟩
theorem b_met {l : Launch} {y : MethodName} {cc : ByteArray} {mL : Nat} {rm : Room} {av : List Value} {D : DW} {X : XW} {σ : ST} {own : String} {h sz ci N mc ms : Nat} {V : Nat → Value} {Qc : Array Value → State → Outcome → State → Prop} (hy : plainFor y = true) (ho : y.cls = own) (hyn : y.name = "<init>") (hlen : (lg_sl av).length ≤ mL)
    (body : ∀ (p : Program) (e : Env) (s : State) (m : MethodId) (below : List Frame) (meth : Method) (c : Code), q_E0 p c cc s m av.toArray own D → c.maxLocals = mL → meth.sig.returnType = none → meth.locks = false → meth.name = "<init>" → s.heap.size = sz → X.1 = D → q_w X σ s.heap → q_kd X h = 0 → t_OB h (D.1.1 ci) N (D.1.2 ci) s.heap V → ∀ ls : Array Slot, lv_has ls mL (lv_args 0 av) → W p l e rm s m av.toArray below meth c s.heap [] 0 0 (MQ below Qc av.toArray s mc ms (q_nw h sz)) (F0 m 0 ls [])) :
    Met l y (q_ws y cc mL none) rm (q_PN D X σ h sz ci N V av) Qc mc ms (q_nw h sz) := by
  refine MetFree.of_bodySF (code := cc) (maxLocals := mL) (ret := none) hy ?_ ?_
  · intro args s m h hn
    obtain ⟨meth, c, h1, h2, h3, h4, h5, h6, -, -⟩ := Cond.code_spec hn (atoms_spec (ws := q_ws y cc mL none) h _ List.mem_cons_self)
    exact ⟨meth, c, h1, h2, h3, h4, h5, h6⟩
  intro p e s m args below meth c s₁ B hml hv _
  obtain ⟨rfl, hs, hD, hw, h0, hO, hK, hN, hA, hA2⟩ := hv
  have hh0 : s₁.heap = s.heap := by rw [B.state]; rfl
  suffices hW9 : W p l e rm s m av.toArray below meth c s.heap [] 0 0 (MQ below Qc av.toArray s mc ms (q_nw h sz)) (entryFrame m av.toArray mL) by
    obtain ⟨t, a1, o, b1, b2, b3⟩ := hW9 s₁ hh0 (Stand.of_body B)
    exact ⟨t, o, a1, b1, b2, ⟨b3.1, b3.2⟩⟩
  have hts := atoms_spec (ws := q_ws y cc mL none) B.pre
  have hown : s.vm.findClass y.cls = some m.cls := findClass_of_methodNamed B.named
  rw [ho] at hown
  have hnm : meth.name = "<init>" := (name_of_methodNamed B.named B.method).1.trans hyn
  have hl := lv_entry av hlen
  rw [lg_entry_eq]
  generalize (lg_sl av ++ List.replicate (mL - (lg_sl av).length) Slot.unset).toArray = ls at hl ⊢
  exact body p e s m below meth c ⟨B.exec, B.bytes, hown, fun w hw => hts w (List.mem_cons_of_mem _ hw), hK, hN, hA, hA2⟩ hml B.returns B.notSynchronized hnm hs hD hw h0 hO ls hl
/-- words of a constructor's call site: by name, or as a nest mate's -/
def b_okI (own : String) (index : Nat) (y : MethodName) (bytes : ByteArray) (mL n : Nat) : Prop :=
  Cond.methodLink own index y ∈ q_tbl ∧ Cond.instanceMethod y ∈ q_tbl ∧ Cond.initialized y.cls ∈ q_tbl ∧ Cond.code y bytes mL none ∈ q_tbl ∧ y.name = "<init>" ∧ (y.cls ≠ "java/lang/invoke/MethodHandle" ∧ y.cls ≠ "java/lang/invoke/VarHandle" ∧ (parseMethodDescriptor y.desc).map (fun d => d.parameters.length) = some n)
def b_okN (own : String) (index : Nat) (host : String) (y : MethodName) (bytes : ByteArray) (mL n : Nat) : Prop :=
  (own, index, y, host) ∈ q_nest ∧ Cond.instanceMethod y ∈ q_tbl ∧ Cond.initialized y.cls ∈ q_tbl ∧ Cond.code y bytes mL none ∈ q_tbl ∧ y.name = "<init>" ∧ (y.cls ≠ "java/lang/invoke/MethodHandle" ∧ y.cls ≠ "java/lang/invoke/VarHandle" ∧ (parseMethodDescriptor y.desc).map (fun d => d.parameters.length) = some n)
section QO
variable {p : Program} {l : Launch} {e : Env} {R : Room} {s : State} {m : MethodId} {args : Array Value} {below : List Frame} {meth : Method} {c : Code} {H : Heap} {locs : List Loc} {cells slots : Nat} {Q : State → Prop} {cc : ByteArray} {own : String} {D : DW} {A : Nat → Prop} {pc : Nat} {ls : Array Slot} {rest st : List Value} {h : Nat} {X : XW} {σ : ST}
theorem b_pre (E : q_E0 p c cc s m args own D) {ci N sz : Nat} {V : Nat → Value} (hD : X.1 = D) (hw : q_w X σ H) (h0 : q_kd X h = 0) (ob : t_OB h (D.1.1 ci) N (D.1.2 ci) H V) (hs : H.size = sz) (av : List Value) : PreS s H (q_PN D X σ h sz ci N V av) av :=
  ⟨q_blindN, fun U hU hW => ⟨rfl, by rw [hU]; exact hs, hD, by rw [hU]; exact hw, h0, by rw [hU]; exact ob, va_K.moved hW.alike E.2.2.2.2.1, fun r hr => va_Nw.warmM hW (E.2.2.2.2.2.1 r hr), va_AO.moved hW.alike E.2.2.2.2.2.2.1, va_AO.moved hW.alike E.2.2.2.2.2.2.2⟩⟩
theorem b_runI (E : q_E0 p c cc s m args own D) (hml : c.maxLocals = ls.size) {ci N sz index mL na mc ms f w : Nat} {V : Nat → Value} {As : List Value} {y : MethodName} {bytes : ByteArray} {Qc : Array Value → State → Outcome → State → Prop} (hD : X.1 = D) (hw : q_w X σ H) (h0 : q_kd X h = 0) (ob : t_OB h (D.1.1 ci) N (D.1.2 ci) H V) (hs : H.size = sz)
    (hM : Met l y (q_ws y bytes mL none) { frames := f, cells := mc, slots := ms, locals := w } (q_PN D X σ h sz ci N V (.ref h :: As)) Qc mc ms (q_nw h sz)) (ok : b_okI own index y bytes mL na) (hn : As.length = na) (hR : f + 1 ≤ R.frames ∧ 8 + (mL + 11) + w ≤ R.locals) (hcs : cells + mc ≤ R.cells ∧ slots + ms ≤ R.slots)
    (hst : st = As.reverse ++ .ref h :: rest) (hW : (rest.map fun v => v.category).sum ≤ 8) (hdg : decode cc pc = .ok (.invokespecial index, 3)) :
    va_Run p l e R s m args below meth c H locs cells slots mc ms (F0 m pc ls st) rest (Qc (Value.ref h :: As).toArray) (q_nw h sz) := by
  obtain ⟨o1, o2, o3, o4, o5, o6⟩ := ok
  obtain ⟨hx, hb, hown, hts, -⟩ := id E
  exact va_runI (nL := ls.size) ⟨hx, hb, hml, hown, hts⟩ hM (cwI na hts (q_goodIn fun w hw => (List.mem_cons.mp hw).elim (fun e => by rw [e]; exact o4) id) rfl rfl rfl (hts _ o3) (hts _ o1) (hts _ o2) o5 o6 hR) (b_pre E hD hw h0 ob hs (.ref h :: As)) rfl hn rfl hst (lv_room hW) hdg hcs
theorem b_runN (E : q_E0 p c cc s m args own D) (hml : c.maxLocals = ls.size) {ci N sz index mL na mc ms f w : Nat} {V : Nat → Value} {host : String} {As : List Value} {y : MethodName} {bytes : ByteArray} {Qc : Array Value → State → Outcome → State → Prop} (hD : X.1 = D) (hw : q_w X σ H) (h0 : q_kd X h = 0) (ob : t_OB h (D.1.1 ci) N (D.1.2 ci) H V) (hs : H.size = sz)
    (hM : Met l y (q_ws y bytes mL none) { frames := f, cells := mc, slots := ms, locals := w } (q_PN D X σ h sz ci N V (.ref h :: As)) Qc mc ms (q_nw h sz)) (ok : b_okN own index host y bytes mL na) (hn : As.length = na) (hR : f + 1 ≤ R.frames ∧ 8 + (mL + 11) + w ≤ R.locals) (hcs : cells + mc ≤ R.cells ∧ slots + ms ≤ R.slots)
    (hst : st = As.reverse ++ .ref h :: rest) (hW : (rest.map fun v => v.category).sum ≤ 8) (hdg : decode cc pc = .ok (.invokespecial index, 3)) :
    va_Run p l e R s m args below meth c H locs cells slots mc ms (F0 m pc ls st) rest (Qc (Value.ref h :: As).toArray) (q_nw h sz) := by
  obtain ⟨o1, o2, o3, o4, o5, o6⟩ := ok
  obtain ⟨hx, hb, hown, hts, -⟩ := id E
  have hl : va_Nw (.methodLinkNest own index y host) s := E.2.2.2.2.2.1 _ o1
  exact va_runIN (nL := ls.size) ⟨hx, hb, hml, hown, hts⟩ hM ⟨va_cnB na hts (q_goodIn fun w hw => (List.mem_cons.mp hw).elim (fun e => by rw [e]; exact o4) id) rfl rfl rfl hl (hts _ o3) o6 hR, o5, hts _ o2⟩ (b_pre E hD hw h0 ob hs (.ref h :: As)) rfl hn rfl hst (lv_room hW) hdg hcs
/-- the call goes on, the object made -/
theorem b_cv {sz k mc ms : Nat} {post : XW → ST → Prop} {args2 : Array Value} {H0 : Heap} (hr : va_Run p l e R s m args below meth c H locs cells slots mc ms (F0 m pc ls st) rest (q_QN X σ h sz k post args2) (q_nw h sz)) (hS : va_S A H0 H locs) (hs : H.size = sz) (hA : ∀ q, q_nw h sz q → A q)
    (kk : ∀ (X1 : XW) (σ1 : ST) (H1 : Heap) (locs1 : List Loc), q_ext (q_nw h sz) X X1 σ σ1 → q_kd X1 h = k → post X1 σ1 → q_w X1 σ1 H1 → H.size ≤ H1.size → (∀ a, a < H.size → a ≠ h → H1[a]? = H[a]?) → va_S A H0 H1 locs1 → W p l e R s m args below meth c H1 locs1 (cells + mc) (slots + ms) Q (F0 m (pc + 3) ls rest)) : W p l e R s m args below meth c H locs cells slots Q (F0 m pc ls st) := by
  refine va_callv hr hS (fun q _ => hA q) hA (fun u t H1 locs1 e1 _ hp hb hz hk hS1 => ?_)
  refine kk u.1 u.2 H1 locs1 hp.1 hp.2.1 hp.2.2 (by rw [← e1]; exact hb) hz (fun a h1 h2 => hk a h1 ?_) hS1
  rintro (q | q)
  · exact h2 q
  · omega
/-- return -/
theorem b_ret (E : q_E0 p c cc s m args own D) (hr : meth.sig.returnType = none) (hlk : meth.locks = false) {X0 : XW} {σ0 : ST} {sz k : Nat} {post : XW → ST → Prop} (hS : va_S (q_nw h sz) s.heap H locs) (hx : q_ext (q_nw h sz) X0 X σ0 σ) (hk : q_kd X h = k) (hp : post X σ) (hw : q_w X σ H) (hdg : decode cc pc = .ok (.return_, 1)) : W p l e R s m args below meth c H locs cells slots (MQ below (q_QN X0 σ0 h sz k post) args s cells slots (q_nw h sz)) (F0 m pc ls []) :=
  W.vret E.1 E.2.1 hr (fun t ht _ => ⟨⟨(X, σ), rfl, ⟨hx, hk, hp⟩, by show q_w X σ t.heap; rw [ht]; exact hw⟩, hS.F ht⟩) hS.2.2 hdg hlk
end QO
