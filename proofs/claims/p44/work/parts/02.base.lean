/-! THE WORLD: one typed heap. X says what lies where (kinds, constant references, lengths: nothing of it changes once it is made), the state what the cells hold. -/
abbrev XW : Type := (va_G × (Nat → ClassId)) × ((Nat → Nat) × ((Nat → Nat → Nat) × ((Nat → Nat) × ((Nat → Nat) × (Nat → Nat)))))
abbrev ST : Type := (Nat → Nat → Int32) × ((Nat → Nat → Int64) × (Nat → Nat))
def q_gD (X : XW) : va_G := X.1.1
def q_gA (X : XW) (t : Nat) : ClassId := X.1.2 t
def q_kd (X : XW) : Nat → Nat := X.2.1
def q_rf (X : XW) : Nat → Nat → Nat := X.2.2.1
def q_ln (X : XW) : Nat → Nat := X.2.2.2.1
/-- where the String constants lie, and their bytes -/
def q_sk (X : XW) : Nat → Nat := X.2.2.2.2.1
def q_sv (X : XW) : Nat → Nat := X.2.2.2.2.2
/-- the type of field f of an object of kind k: 0 int or boolean, 1 long, 2 a reference that stays, 3 the text of a reader -/
def q_ft (k f : Nat) : Nat := match k with
  | 1 => match f with | 0 => 2 | 1 => 2 | 2 => 2 | 3 => 2 | 8 => 2 | 10 => 2 | _ => 0
  | 2 => 2
  | 3 => match f with | 0 => 0 | 1 => 0 | _ => 2
  | 4 => match f with | 0 => 3 | 8 => 2 | 9 => 2 | _ => 0
  | 5 => 2
  | 6 => match f with | 5 => 2 | 6 => 2 | 7 => 2 | _ => 0
  | 7 => match f with | 7 => 2 | _ => 0
  | 8 => match f with | 0 => 0 | 1 => 0 | 2 => 0 | _ => 2
  | 9 => match f with | 0 => 3 | 8 => 2 | 11 => 2 | _ => 0
  | 10 => match f with | 2 => 2 | _ => 0
  | 11 => match f with | 1 => 1 | 2 => 1 | 3 => 2 | 4 => 2 | 8 => 2 | 9 => 2 | 10 => 2 | 12 => 2 | 13 => 2 | 14 => 2 | 15 => 2 | _ => 0
  | 12 => match f with | 2 => 1 | 3 => 1 | 4 => 2 | 5 => 2 | 6 => 2 | 7 => 2 | 19 => 1 | 20 => 2 | 21 => 2 | 22 => 2 | 23 => 2 | 28 => 2 | 29 => 2 | 30 => 1 | 31 => 1 | 32 => 2 | 36 => 2 | _ => 0
  | _ => 0
/-- the kind of what a constant reference leads to; of arrays of references: place by place -/
def q_rk (k f : Nat) : Nat := match k with
  | 1 => match f with | 0 => 6 | 1 => 2 | 2 => 3 | 3 => 8 | 8 => 5 | 10 => 5 | _ => 0
  | 2 => match f with | 0 => 5 | 1 => 5 | 2 => 5 | 3 => 5 | 4 => 5 | 5 => 5 | 6 => 5 | _ => 0
  | 3 => match f with | 2 => 5 | 3 => 5 | 4 => 5 | 5 => 5 | _ => 0
  | 4 => match f with | 8 => 8 | 9 => 5 | _ => 0
  | 5 => match f with | 0 => 20 | _ => 0
  | 6 => match f with | 5 => 5 | 6 => 5 | 7 => 5 | _ => 0
  | 7 => match f with | 7 => 5 | _ => 0
  | 8 => match f with | 3 => 5 | 4 => 5 | 5 => 5 | 6 => 5 | 7 => 5 | _ => 0
  | 9 => match f with | 8 => 1 | 11 => 5 | _ => 0
  | 10 => match f with | 2 => 21 | _ => 0
  | 11 => match f with | 3 => 23 | 4 => 22 | 8 => 1 | 9 => 1 | 10 => 24 | 12 => 9 | 13 => 4 | 14 => 7 | 15 => 7 | _ => 0
  | 12 => match f with | 4 => 30 | 5 => 31 | 6 => 32 | 7 => 33 | 20 => 34 | 21 => 35 | 22 => 36 | 23 => 37 | 28 => 39 | 29 => 40 | 32 => 38 | 36 => 41 | _ => 0
  | 23 => match f with | 0 => 10 | 1 => 10 | 2 => 10 | 3 => 10 | _ => 0
  | 24 => match f with | 0 => 1 | 1 => 1 | 2 => 1 | _ => 0
  | _ => 0
/-- what an array of kind k is of: 0 byte, 1 int, 2 long, 3 trays, 4 games -/
def q_et (k : Nat) : Nat := match k with
  | 20 => 1 | 21 => 2 | 22 => 0 | 23 => 3 | 24 => 4 | 30 => 1 | 31 => 1 | 32 => 2 | 33 => 0 | 34 => 1 | 35 => 1 | 36 => 1 | 37 => 2 | 38 => 1 | 39 => 1 | 40 => 1 | 41 => 1 | _ => 1
/-- an array kind's one length (0: lengths differ) -/
def q_ll (k : Nat) : Nat := match k with
  | 21 => 60 | 23 => 4 | 24 => 3 | 30 => 4 | 31 => 4 | 32 => 240 | 33 => 900 | 34 => 4650 | 35 => 654 | 36 => 60 | 37 => 30 | 38 => 10 | 39 => 10 | 40 => 4 | 41 => 5 | _ => 0
/-- what may stand in an int cell -/
def q_full : Int × Int := (-2147483648, 2147483647)
def q_bn (k f : Nat) : Int × Int := match k with
  | 1 => match f with | 7 => (0, 1) | _ => q_full
  | 4 => match f with | 2 => (0, 2147483647) | 3 => (0, 2147483647) | _ => q_full
  | 6 => match f with | 0 => (-2147483648, 10) | 3 => (-2147483648, 4) | _ => q_full
  | 7 => match f with | 5 => (0, 1) | _ => q_full
  | 8 => match f with | 0 => (0, 1) | _ => q_full
  | 9 => match f with | 2 => (0, 2147483647) | 3 => (0, 2147483647) | 9 => (0, 1) | 10 => (0, 1) | _ => q_full
  | 10 => match f with | 0 => (0, 3) | 1 => (-1, 60) | _ => q_full
  | 11 => match f with | 5 => (0, 900) | 11 => (0, 3) | 16 => (0, 1) | _ => q_full
  | 12 => match f with | 8 => (0, 900) | 24 => (0, 3) | 25 => (0, 1) | 26 => (0, 1) | 37 => (0, 1) | 38 => (0, 1) | _ => q_full
  | 30 => (0, 3)
  | 31 => (-1, 60)
  | _ => q_full
/-- how well a cell is kept: 1 the trays' forms, the tape's length, the marks' number; 2 the model's tables, names and what was played; 3 what it has read of a text; 9 all others -/
def q_cl (k f : Nat) : Nat := match k with
  | 10 => match f with | 0 => 1 | 1 => 1 | _ => 9
  | 11 => match f with | 5 => 1 | 11 => 1 | _ => 9
  | 12 => match f with | 8 => 1 | 24 => 1 | 9 => 3 | 12 => 3 | 13 => 3 | 14 => 3 | 15 => 3 | 16 => 3 | 17 => 3 | 18 => 3 | 27 => 3 | 25 => 3 | 26 => 3 | _ => 9
  | 30 => 1
  | 31 => 1
  | 34 => 2
  | _ => 9
def q_fvk (X : XW) (σ : ST) (k a f : Nat) : Value := match q_ft k f with
  | 0 => .int (σ.1 a f)
  | 1 => .long (σ.2.1 a f)
  | 2 => .ref (q_rf X a f)
  | _ => .ref (σ.2.2 a)
def q_av (X : XW) (σ : ST) (k a j : Nat) : Value := match q_et k with
  | 0 => .int (σ.1 a j)
  | 1 => .int (σ.1 a j)
  | 2 => .long (σ.2.1 a j)
  | _ => .ref (q_rf X a j)
def q_cf (X : XW) (σ : ST) (a : Nat) (H : Heap) : Prop :=
  (q_kd X a < 20 → ∃ r : vw_C, vwCl[q_kd X a - 1]? = some r ∧ t_OB a ((q_gD X).1 (q_kd X a - 1)) r.2.2 ((q_gD X).2 (q_kd X a - 1)) H (q_fvk X σ (q_kd X a) a)) ∧
  (20 ≤ q_kd X a → H[a]? = some (arrV (q_gA X (q_et (q_kd X a))) (q_ln X a) (q_av X σ (q_kd X a) a)))
def q_R (X : XW) (σ : ST) (H : Heap) : Prop := ∀ a, q_kd X a ≠ 0 → q_cf X σ a H
def q_in (b : Int × Int) (v : Int32) : Prop := b.1 ≤ v.toInt ∧ v.toInt ≤ b.2
def q_B (X : XW) (σ : ST) : Prop := ∀ a f, q_in (q_bn (q_kd X a) f) (σ.1 a f)
def q_TT (X : XW) (σ : ST) : Prop := ∀ a, q_kd X a = 4 ∨ q_kd X a = 9 → q_kd X (σ.2.2 a) = 22
def q_T (X : XW) : Prop := (∀ a f, q_rk (q_kd X a) f ≠ 0 → q_kd X (q_rf X a f) = q_rk (q_kd X a) f) ∧ (∀ a, q_ll (q_kd X a) ≠ 0 → q_ln X a = q_ll (q_kd X a)) ∧ (∀ a, q_ln X a < 1000000) ∧ ∀ a, q_kd X a = 11 → q_ln X (q_rf X a 4) = 900
def q_K (n : Nat) (X : XW) (σ σ' : ST) : Prop := ∀ a f, q_cl (q_kd X a) f ≤ n → σ'.1 a f = σ.1 a f
def q_reg (X : XW) : Nat → Prop := fun a => q_kd X a ≠ 0
def q_I (X : XW) (n : Nat) (σ0 : ST) (H0 : Heap) (locs : List Loc) (σ : ST) (H : Heap) : Prop := q_T X ∧ q_R X σ H ∧ q_B X σ ∧ q_TT X σ ∧ va_S (q_reg X) H0 H locs ∧ q_K n X σ0 σ
def q_tys (X : XW) : List (ClassId × FieldType) := [(q_gA X 0, .byte), (q_gA X 1, .int), (q_gA X 2, .long), (q_gA X 3, .object "CheatHeap$Tray"), (q_gA X 4, .object "CheatHeap$Game")]
/-! String constants, links of nest mates -/
def q_slen : List Nat := [5, 4, 3, 2, 4, 4, 4, 6, 105, 4, 6, 4, 2, 3, 4, 4, 4, 4, 5, 4, 5, 3]
def q_sbyt : List (List Int32) := [[107, 105, 110, 100, 115], [101, 97, 99, 104], [108, 97, 119], [117, 112], [100, 111, 119, 110], [115, 97, 109, 101], [109, 111, 115, 116], [112, 108, 97, 121, 101, 114], [107, 105, 110, 100, 115, 32, 101, 97, 99, 104, 32, 108, 97, 119, 32, 109, 111, 115, 116, 32, 112, 108, 97, 121, 101, 114, 32, 108, 105, 101, 115, 32, 100, 111, 117, 98, 116, 115, 32, 104, 97, 110, 100, 32, 111, 102, 32, 117, 112, 32, 100, 111, 119, 110, 32, 115, 97, 109, 101, 32, 116, 117, 114, 110, 32, 119, 104, 101, 110, 32, 99, 97, 114, 100, 115, 32, 104, 101, 97, 112, 32, 119, 111, 110, 32, 115, 104, 111, 119, 110, 32, 108, 111, 111, 112, 32, 101, 110, 100, 32, 115, 116, 111, 112, 32], [108, 105, 101, 115], [100, 111, 117, 98, 116, 115], [104, 97, 110, 100], [111, 102], [101, 110, 100], [116, 117, 114, 110], [115, 116, 111, 112], [108, 111, 111, 112], [119, 104, 101, 110], [99, 97, 114, 100, 115], [104, 101, 97, 112], [115, 104, 111, 119, 110], [119, 111, 110]]
def q_str : List (String × Nat × String × Nat) := [("CheatHeap$TableReader", 55, "kinds", 0), ("CheatHeap$TableReader", 65, "each", 1), ("CheatHeap$TableReader", 80, "law", 2), ("CheatHeap$TableReader", 110, "up", 3), ("CheatHeap$TableReader", 114, "down", 4), ("CheatHeap$TableReader", 116, "same", 5), ("CheatHeap$TableReader", 88, "most", 6), ("CheatHeap$TableReader", 93, "player", 7), ("CheatHeap$Reader", 68, "kinds each law most player lies doubts hand of up down same turn when cards heap won shown loop end stop ", 8), ("CheatHeap$TableReader", 134, "lies", 9), ("CheatHeap$TableReader", 149, "doubts", 10), ("CheatHeap$TableReader", 98, "hand", 11), ("CheatHeap$TableReader", 162, "of", 12), ("CheatHeap$RoundReader", 41, "end", 13), ("CheatHeap$RoundReader", 100, "turn", 14), ("CheatHeap$RoundReader", 102, "lies", 9), ("CheatHeap$RoundReader", 104, "doubts", 10), ("CheatHeap$RoundReader", 106, "stop", 15), ("CheatHeap$RoundReader", 108, "loop", 16), ("CheatHeap$RoundReader", 110, "when", 17), ("CheatHeap$RoundReader", 112, "cards", 18), ("CheatHeap$RoundReader", 117, "heap", 19), ("CheatHeap$RoundReader", 119, "shown", 20), ("CheatHeap$RoundReader", 121, "won", 21)]
def q_nest : List (String × Nat × MethodName × String) := [("CheatHeap", 41, ⟨"CheatHeap$Game", "<init>", "()V"⟩, "CheatHeap"), ("CheatHeap$Game", 11, ⟨"CheatHeap$Rules", "<init>", "()V"⟩, "CheatHeap"), ("CheatHeap$Game", 20, ⟨"CheatHeap$Hands", "<init>", "()V"⟩, "CheatHeap"), ("CheatHeap$Game", 27, ⟨"CheatHeap$Pile", "<init>", "()V"⟩, "CheatHeap"), ("CheatHeap$Game", 34, ⟨"CheatHeap$Script", "<init>", "()V"⟩, "CheatHeap"), ("CheatHeap", 58, ⟨"CheatHeap$TableReader", "<init>", "()V"⟩, "CheatHeap"), ("CheatHeap$TableReader", 3, ⟨"CheatHeap$Reader", "<init>", "()V"⟩, "CheatHeap"), ("CheatHeap$TableReader", 11, ⟨"CheatHeap$Game", "<init>", "()V"⟩, "CheatHeap"), ("CheatHeap", 65, ⟨"CheatHeap$RoundReader", "<init>", "()V"⟩, "CheatHeap"), ("CheatHeap$RoundReader", 3, ⟨"CheatHeap$Reader", "<init>", "()V"⟩, "CheatHeap"), ("CheatHeap$RoundReader", 11, ⟨"CheatHeap$Script", "<init>", "()V"⟩, "CheatHeap"), ("CheatHeap", 72, ⟨"CheatHeap$Run", "<init>", "()V"⟩, "CheatHeap"), ("CheatHeap", 84, ⟨"CheatHeap$Tray", "<init>", "()V"⟩, "CheatHeap"), ("CheatHeap$Game", 165, ⟨"CheatHeap", "waysToTake", "(II)J"⟩, "CheatHeap")]
def q_SR (X : XW) (U : State) : Prop := ∀ r ∈ q_str, vk_R r.1 r.2.1 r.2.2.1 (q_sk X r.2.2.2) U
def q_NW (U : State) : Prop := ∀ r ∈ q_nest, va_Nw (.methodLinkNest r.1 r.2.1 r.2.2.1 r.2.2.2) U
/-- private methods of a class above are what their own calls select -/
def q_extra : List Cond := [.selects RX4 yX3_endOfRun yX3_endOfRun, .selects RX9 yX3_endOfRun yX3_endOfRun, .selects RX4 yX3_isReserved yX3_isReserved, .selects RX9 yX3_isReserved yX3_isReserved]
def q_tbl : List Cond := q_extra ++ lw_tbl.filter goodWord
def q_KX (X : XW) (U : State) : Prop := va_K (q_gD X) vwCl (q_tys X) U ∧ q_NW U ∧ q_SR X U
def q_SW (X : XW) (U : State) (H : Heap) : Prop := vk_S 22 q_slen q_sbyt (q_sk X) (q_sv X) (q_reg X) U H ∧ va_Z "java/lang/String" "COMPACT_STRINGS" "Z" (.int 1) (q_reg X) U H ∧ va_Zq "jdk/internal/util/Preconditions" "SIOOBE_FORMATTER" "Ljava/util/function/BiFunction;" (q_reg X) U H
def q_Pre (X : XW) (σ : ST) (U : State) : Prop := q_T X ∧ q_R X σ U.heap ∧ q_B X σ ∧ q_TT X σ ∧ q_KX X U ∧ q_SW X U U.heap
def q_Post (X : XW) (n : Nat) (σ σ' : ST) (H : Heap) : Prop := q_R X σ' H ∧ q_B X σ' ∧ q_TT X σ' ∧ q_K n X σ σ'
def q_E (p : Program) (c : Code) (cc : ByteArray) (s : State) (m : MethodId) (args : Array Value) (own : String) (X : XW) : Prop :=
  p.tables.exec = Jvm.exec ∧ c.code = cc ∧ s.vm.findClass own = some m.cls ∧ (∀ w ∈ q_tbl, w.before args s = true) ∧ q_KX X s ∧ q_SW X s s.heap
def q_ws (y : MethodName) (cc : ByteArray) (mL : Nat) (ret : Option FieldType) : List Cond := Cond.code y cc mL ret :: q_tbl
def q_rm (f w : Nat) : Room := { frames := f, cells := 0, slots := 0, locals := w }
/-! the state, one cell changed -/
def q_si (σ : ST) (a f : Nat) (v : Int32) : ST := (fun b g => if b = a ∧ g = f then v else σ.1 b g, σ.2)
def q_sl (σ : ST) (a f : Nat) (v : Int64) : ST := (σ.1, (fun b g => if b = a ∧ g = f then v else σ.2.1 b g, σ.2.2))
def q_st (σ : ST) (a v : Nat) : ST := (σ.1, (σ.2.1, fun b => if b = a then v else σ.2.2 b))
theorem q_full_in (v : Int32) : q_in q_full v := ⟨by have := Int32.le_toInt v; simp [q_full]; omega, by have := Int32.toInt_lt v; simp [q_full]; omega⟩
theorem q_inU {k f : Nat} {v : Int32} (h : q_bn k f = q_full) : q_in (q_bn k f) v := by rw [h]; exact q_full_in v
theorem q_inB {k f : Nat} {v : Int32} {lo hi : Int} (h : q_bn k f = (lo, hi)) (h1 : lo ≤ v.toInt) (h2 : v.toInt ≤ hi) : q_in (q_bn k f) v := by rw [h]; exact ⟨h1, h2⟩
theorem q_rng (v : Int32) : -2147483648 ≤ v.toInt ∧ v.toInt ≤ 2147483647 := ⟨(q_full_in v).1, (q_full_in v).2⟩
theorem q_K.rf {n : Nat} {X : XW} {σ : ST} : q_K n X σ σ := fun _ _ _ => rfl
theorem q_K.tr {n : Nat} {X : XW} {σ σ' σ'' : ST} (h : q_K n X σ σ') (h2 : q_K n X σ' σ'') : q_K n X σ σ'' := fun a f q => (h2 a f q).trans (h a f q)
theorem q_K.le {n n' : Nat} {X : XW} {σ σ' : ST} (h : q_K n X σ σ') (hn : n' ≤ n) : q_K n' X σ σ' := fun a f q => h a f (Nat.le_trans q hn)
theorem q_K.si {n : Nat} {X : XW} {σ : ST} {a k f : Nat} {v : Int32} (ha : q_kd X a = k) (h : n < q_cl k f) : q_K n X σ (q_si σ a f v) := by
  intro b g q
  show (if b = a ∧ g = f then v else σ.1 b g) = _
  rw [if_neg]
  rintro ⟨rfl, rfl⟩
  rw [ha] at q
  omega
theorem q_fv_si {X : XW} {σ : ST} {k a f : Nat} {v : Int32} (hf : q_ft k f = 0) (g : Nat) : updV (q_fvk X σ k a) f (.int v) g = q_fvk X (q_si σ a f v) k a g := by
  unfold updV
  by_cases hg : g = f
  · subst hg
    rw [if_pos rfl]
    unfold q_fvk q_si
    rw [hf]
    simp
  · rw [if_neg hg]
    unfold q_fvk q_si
    simp [hg]
theorem q_fv_sl {X : XW} {σ : ST} {k a f : Nat} {v : Int64} (hf : q_ft k f = 1) (g : Nat) : updV (q_fvk X σ k a) f (.long v) g = q_fvk X (q_sl σ a f v) k a g := by
  unfold updV
  by_cases hg : g = f
  · subst hg
    rw [if_pos rfl]
    unfold q_fvk q_sl
    rw [hf]
    simp
  · rw [if_neg hg]
    unfold q_fvk q_sl
    simp [hg]
theorem q_fv_st {X : XW} {σ : ST} {k a v : Nat} (hf : ∀ g, q_ft k g = 3 ↔ g = 0) (h3 : ∀ g, q_ft k g ≤ 3) (g : Nat) : updV (q_fvk X σ k a) 0 (.ref v) g = q_fvk X (q_st σ a v) k a g := by
  unfold updV
  by_cases hg : g = 0
  · subst hg
    rw [if_pos rfl]
    unfold q_fvk q_st
    rw [(hf 0).mpr rfl]
    simp
  · rw [if_neg hg]
    have h1 : q_ft k g ≠ 3 := fun h => hg ((hf g).mp h)
    have h2 := h3 g
    unfold q_fvk q_st
    generalize q_ft k g = z at h1 h2
    match z, h1, h2 with
    | 0, _, _ => rfl
    | 1, _, _ => rfl
    | 2, _, _ => rfl
    | 3, h1, _ => exact absurd rfl h1
theorem q_cf.ne {X : XW} {σ σ' : ST} {b : Nat} {H H1 : Heap} (h : q_cf X σ b H) (e1 : ∀ g, σ'.1 b g = σ.1 b g) (e2 : ∀ g, σ'.2.1 b g = σ.2.1 b g) (e3 : σ'.2.2 b = σ.2.2 b) (hq : H1[b]? = H[b]?) : q_cf X σ' b H1 := by
  have f1 : q_fvk X σ' (q_kd X b) b = q_fvk X σ (q_kd X b) b := by
    funext g
    unfold q_fvk
    rw [e1, e2, e3]
  have f2 : q_av X σ' (q_kd X b) b = q_av X σ (q_kd X b) b := by
    funext g
    unfold q_av
    rw [e1, e2]
  refine ⟨fun hk => ?_, fun hk => ?_⟩
  · obtain ⟨r, h1, h2⟩ := h.1 hk
    refine ⟨r, h1, ?_⟩
    rw [f1]
    exact h2.kept hq
  · rw [f2, hq]
    exact h.2 hk
theorem q_R.kept {X : XW} {σ : ST} {H H1 : Heap} (h : q_R X σ H) (hq : ∀ a, q_kd X a ≠ 0 → H1[a]? = H[a]?) : q_R X σ H1 := fun a ha => (h a ha).ne (fun _ => rfl) (fun _ => rfl) rfl (hq a ha)
theorem q_R.lt {X : XW} {σ : ST} {H : Heap} (h : q_R X σ H) {a : Nat} (ha : q_kd X a ≠ 0) : a < H.size := by
  rcases Nat.lt_or_ge (q_kd X a) 20 with hk | hk
  · obtain ⟨r, -, cell, h2, -⟩ := (h a ha).1 hk
    exact (Array.getElem?_eq_some_iff.mp h2).1
  · exact (Array.getElem?_eq_some_iff.mp ((h a ha).2 hk)).1
/-- what a constant reference leads to -/
theorem q_tk {X : XW} {n : Nat} {σ0 σ : ST} {H0 H : Heap} {locs : List Loc} (hI : q_I X n σ0 H0 locs σ H) {a k f k' : Nat} (ha : q_kd X a = k) (h : q_rk k f = k') (h0 : k' ≠ 0) : q_kd X (q_rf X a f) = k' := by
  have h1 := hI.1.1 a f (by rw [ha, h]; exact h0)
  rw [h1, ha, h]
theorem q_txk {X : XW} {n : Nat} {σ0 σ : ST} {H0 H : Heap} {locs : List Loc} (hI : q_I X n σ0 H0 locs σ H) {a : Nat} (ha : q_kd X a = 4 ∨ q_kd X a = 9) : q_kd X (σ.2.2 a) = 22 := hI.2.2.2.1 a ha
theorem q_lnk {X : XW} {n : Nat} {σ0 σ : ST} {H0 H : Heap} {locs : List Loc} (hI : q_I X n σ0 H0 locs σ H) {a k v : Nat} (ha : q_kd X a = k) (h : q_ll k = v) (h0 : v ≠ 0) : q_ln X a = v := by
  have h1 := hI.1.2.1 a (by rw [ha, h]; exact h0)
  rw [h1, ha, h]
theorem q_bd {X : XW} {n : Nat} {σ0 σ : ST} {H0 H : Heap} {locs : List Loc} (hI : q_I X n σ0 H0 locs σ H) {a k f : Nat} {lo hi : Int} (ha : q_kd X a = k) (h : q_bn k f = (lo, hi)) : lo ≤ (σ.1 a f).toInt ∧ (σ.1 a f).toInt ≤ hi := by
  have h1 := hI.2.2.1 a f
  rw [ha, h] at h1
  exact h1
theorem q_ln11 {X : XW} {n : Nat} {σ0 σ : ST} {H0 H : Heap} {locs : List Loc} (hI : q_I X n σ0 H0 locs σ H) {a : Nat} (ha : q_kd X a = 11) : q_ln X (q_rf X a 4) = 900 := hI.1.2.2.2 a ha
theorem q_bdR {X : XW} {n : Nat} {σ0 σ : ST} {H0 H : Heap} {locs : List Loc} (hI : q_I X n σ0 H0 locs σ H) {a f : Nat} {lo hi : Int} (ha : q_kd X a = 4 ∨ q_kd X a = 9) (h4 : q_bn 4 f = (lo, hi)) (h9 : q_bn 9 f = (lo, hi)) : lo ≤ (σ.1 a f).toInt ∧ (σ.1 a f).toInt ≤ hi := by
  rcases ha with ha | ha
  · exact q_bd hI ha h4
  · exact q_bd hI ha h9
