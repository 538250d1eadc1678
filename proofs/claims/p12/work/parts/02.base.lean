/-! FROM 02.base.lean.txt -/
section
/-! THE WORLD: one typed heap. X says what lies where (kinds, constant references, lengths: nothing of it changes once it is made), the state what the cells hold. -/
abbrev XW : Type := (va_G × (Nat → ClassId)) × ((Nat → Nat) × ((Nat → Nat → Nat) × ((Nat → Nat) × ((Nat → Nat) × (Nat → Nat)))))
abbrev ST : Type := (Nat → Nat → Int32) × ((Nat → Nat → Int64) × (Nat → Nat))
def q_gD (X : XW) : va_G := X.1.1
def q_gA (X : XW) (t : Nat) : ClassId := X.1.2 t
def q_kd (X : XW) : Nat → Nat := X.2.1
def q_rf (X : XW) : Nat → Nat → Nat := X.2.2.1
def q_ln (X : XW) : Nat → Nat := X.2.2.2.1
/-- where the String constants lie, and their bytes -/
def q_sk (X : XW) : Nat → Nat := X.2.2.2.2.1
def q_sv (X : XW) : Nat → Nat := X.2.2.2.2.2
/-- the type of field f of an object of kind k: 0 int or boolean, 1 long, 2 a reference that stays, 3 the text of a reader -/
def q_ft (k f : Nat) : Nat := match k with
  | 1 => match f with | 0 => 2 | 1 => 2 | 2 => 2 | 3 => 2 | 8 => 2 | 10 => 2 | _ => 0
  | 2 => 2
  | 3 => match f with | 0 => 0 | 1 => 0 | _ => 2
  | 4 => match f with | 0 => 3 | 8 => 2 | 9 => 2 | _ => 0
  | 5 => 2
  | 6 => match f with | 5 => 2 | 6 => 2 | 7 => 2 | _ => 0
  | 7 => match f with | 7 => 2 | _ => 0
  | 8 => match f with | 0 => 0 | 1 => 0 | 2 => 0 | _ => 2
  | 9 => match f with | 0 => 3 | 8 => 2 | 11 => 2 | _ => 0
  | 10 => match f with | 2 => 2 | _ => 0
  | 11 => match f with | 1 => 1 | 2 => 1 | 3 => 2 | 4 => 2 | 8 => 2 | 9 => 2 | 10 => 2 | 12 => 2 | 13 => 2 | 14 => 2 | 15 => 2 | _ => 0
  | 12 => match f with | 2 => 1 | 3 => 1 | 4 => 2 | 5 => 2 | 6 => 2 | 7 => 2 | 19 => 1 | 20 => 2 | 21 => 2 | 22 => 2 | 23 => 2 | 28 => 2 | 29 => 2 | 30 => 1 | 31 => 1 | 32 => 2 | 36 => 2 | _ => 0
  | _ => 0
/-- the kind of what a constant reference leads to; of arrays of references: place by place -/
def q_rk (k f : Nat) : Nat := match k with
  | 1 => match f with | 0 => 6 | 1 => 2 | 2 => 3 | 3 => 8 | 8 => 5 | 10 => 5 | _ => 0
  | 2 => match f with | 0 => 5 | 1 => 5 | 2 => 5 | 3 => 5 | 4 => 5 | 5 => 5 | 6 => 5 | _ => 0
  | 3 => match f with | 2 => 5 | 3 => 5 | 4 => 5 | 5 => 5 | _ => 0
  | 4 => match f with | 8 => 8 | 9 => 5 | _ => 0
  | 5 => match f with | 0 => 20 | _ => 0
  | 6 => match f with | 5 => 5 | 6 => 5 | 7 => 5 | _ => 0
  | 7 => match f with | 7 => 5 | _ => 0
  | 8 => match f with | 3 => 5 | 4 => 5 | 5 => 5 | 6 => 5 | 7 => 5 | _ => 0
  | 9 => match f with | 8 => 1 | 11 => 5 | _ => 0
  | 10 => match f with | 2 => 21 | _ => 0
  | 11 => match f with | 3 => 23 | 4 => 22 | 8 => 1 | 9 => 1 | 10 => 24 | 12 => 9 | 13 => 4 | 14 => 7 | 15 => 7 | _ => 0
  | 12 => match f with | 4 => 30 | 5 => 31 | 6 => 32 | 7 => 33 | 20 => 34 | 21 => 35 | 22 => 36 | 23 => 37 | 28 => 39 | 29 => 40 | 32 => 38 | 36 => 41 | _ => 0
  | 23 => match f with | 0 => 10 | 1 => 10 | 2 => 10 | 3 => 10 | _ => 0
  | 24 => match f with | 0 => 1 | 1 => 1 | 2 => 1 | _ => 0
  | _ => 0
/-- what an array of kind k is of: 0 byte, 1 int, 2 long, 3 trays, 4 games -/
def q_et (k : Nat) : Nat := match k with
  | 20 => 1 | 21 => 2 | 22 => 0 | 23 => 3 | 24 => 4 | 30 => 1 | 31 => 1 | 32 => 2 | 33 => 0 | 34 => 1 | 35 => 1 | 36 => 1 | 37 => 2 | 38 => 1 | 39 => 1 | 40 => 1 | 41 => 1 | _ => 1
/-- an array kind's one length (0: lengths differ) -/
def q_ll (k : Nat) : Nat := match k with
  | 21 => 60 | 23 => 4 | 24 => 3 | 30 => 4 | 31 => 4 | 32 => 240 | 33 => 900 | 34 => 4650 | 35 => 654 | 36 => 60 | 37 => 30 | 38 => 10 | 39 => 10 | 40 => 4 | 41 => 5 | _ => 0
/-- what may stand in an int cell -/
def q_full : Int × Int := (-2147483648, 2147483647)
def q_bn (k f : Nat) : Int × Int := match k with
  | 1 => match f with | 7 => (0, 1) | _ => q_full
  | 4 => match f with | 2 => (0, 2147483647) | 3 => (0, 2147483647) | _ => q_full
  | 6 => match f with | 0 => (-2147483648, 10) | 3 => (-2147483648, 4) | _ => q_full
  | 7 => match f with | 5 => (0, 1) | _ => q_full
  | 8 => match f with | 0 => (0, 1) | _ => q_full
  | 9 => match f with | 2 => (0, 2147483647) | 3 => (0, 2147483647) | 9 => (0, 1) | 10 => (0, 1) | _ => q_full
  | 10 => match f with | 0 => (0, 3) | 1 => (-1, 60) | _ => q_full
  | 11 => match f with | 5 => (0, 900) | 11 => (0, 3) | 16 => (0, 1) | _ => q_full
  | 12 => match f with | 8 => (0, 900) | 24 => (0, 3) | 25 => (0, 1) | 26 => (0, 1) | 37 => (0, 1) | 38 => (0, 1) | _ => q_full
  | 30 => (0, 3)
  | 31 => (-1, 60)
  | _ => q_full
/-- how well a cell is kept: 1 the trays' forms, the tape's length, the marks' number; 2 the model's tables, names and what was played; 3 what it has read of a text; 9 all others -/
def q_cl (k f : Nat) : Nat := match k with
  | 10 => match f with | 0 => 1 | 1 => 1 | _ => 9
  | 11 => match f with | 5 => 1 | 11 => 1 | _ => 9
  | 12 => match f with | 8 => 1 | 24 => 1 | 9 => 3 | 12 => 3 | 13 => 3 | 14 => 3 | 15 => 3 | 16 => 3 | 17 => 3 | 18 => 3 | 27 => 3 | 25 => 3 | 26 => 3 | _ => 9
  | 30 => 1
  | 31 => 1
  | 34 => 2
  | _ => 9
def q_fvk (X : XW) (σ : ST) (k a f : Nat) : Value := match q_ft k f with
  | 0 => .int (σ.1 a f)
  | 1 => .long (σ.2.1 a f)
  | 2 => .ref (q_rf X a f)
  | _ => .ref (σ.2.2 a)
def q_av (X : XW) (σ : ST) (k a j : Nat) : Value := match q_et k with
  | 0 => .int (σ.1 a j)
  | 1 => .int (σ.1 a j)
  | 2 => .long (σ.2.1 a j)
  | _ => .ref (q_rf X a j)
def q_cf (X : XW) (σ : ST) (a : Nat) (H : Heap) : Prop :=
  (q_kd X a < 20 → ∃ r : vw_C, vwCl[q_kd X a - 1]? = some r ∧ t_OB a ((q_gD X).1 (q_kd X a - 1)) r.2.2 ((q_gD X).2 (q_kd X a - 1)) H (q_fvk X σ (q_kd X a) a)) ∧
  (20 ≤ q_kd X a → H[a]? = some (arrV (q_gA X (q_et (q_kd X a))) (q_ln X a) (q_av X σ (q_kd X a) a)))
def q_R (X : XW) (σ : ST) (H : Heap) : Prop := ∀ a, q_kd X a ≠ 0 → q_cf X σ a H
def q_in (b : Int × Int) (v : Int32) : Prop := b.1 ≤ v.toInt ∧ v.toInt ≤ b.2
def q_B (X : XW) (σ : ST) : Prop := ∀ a f, q_in (q_bn (q_kd X a) f) (σ.1 a f)
def q_TT (X : XW) (σ : ST) : Prop := ∀ a, q_kd X a = 4 ∨ q_kd X a = 9 → q_kd X (σ.2.2 a) = 22
def q_T (X : XW) : Prop := (∀ a f, q_rk (q_kd X a) f ≠ 0 → q_kd X (q_rf X a f) = q_rk (q_kd X a) f) ∧ (∀ a, q_ll (q_kd X a) ≠ 0 → q_ln X a = q_ll (q_kd X a)) ∧ (∀ a, q_ln X a < 1000000) ∧ ∀ a, q_kd X a = 11 → q_ln X (q_rf X a 4) = 900
def q_K (n : Nat) (X : XW) (σ σ' : ST) : Prop := ∀ a f, q_cl (q_kd X a) f ≤ n → σ'.1 a f = σ.1 a f
def q_reg (X : XW) : Nat → Prop := fun a => q_kd X a ≠ 0
def q_I (X : XW) (n : Nat) (σ0 : ST) (H0 : Heap) (locs : List Loc) (σ : ST) (H : Heap) : Prop := q_T X ∧ q_R X σ H ∧ q_B X σ ∧ q_TT X σ ∧ va_S (q_reg X) H0 H locs ∧ q_K n X σ0 σ
def q_tys (X : XW) : List (ClassId × FieldType) := [(q_gA X 0, .byte), (q_gA X 1, .int), (q_gA X 2, .long), (q_gA X 3, .object "CheatHeap$Tray"), (q_gA X 4, .object "CheatHeap$Game")]
/-! String constants, links of nest mates -/
def q_slen : List Nat := [5, 4, 3, 2, 4, 4, 4, 6, 105, 4, 6, 4, 2, 3, 4, 4, 4, 4, 5, 4, 5, 3]
def q_sbyt : List (List Int32) := [[107, 105, 110, 100, 115], [101, 97, 99, 104], [108, 97, 119], [117, 112], [100, 111, 119, 110], [115, 97, 109, 101], [109, 111, 115, 116], [112, 108, 97, 121, 101, 114], [107, 105, 110, 100, 115, 32, 101, 97, 99, 104, 32, 108, 97, 119, 32, 109, 111, 115, 116, 32, 112, 108, 97, 121, 101, 114, 32, 108, 105, 101, 115, 32, 100, 111, 117, 98, 116, 115, 32, 104, 97, 110, 100, 32, 111, 102, 32, 117, 112, 32, 100, 111, 119, 110, 32, 115, 97, 109, 101, 32, 116, 117, 114, 110, 32, 119, 104, 101, 110, 32, 99, 97, 114, 100, 115, 32, 104, 101, 97, 112, 32, 119, 111, 110, 32, 115, 104, 111, 119, 110, 32, 108, 111, 111, 112, 32, 101, 110, 100, 32, 115, 116, 111, 112, 32], [108, 105, 101, 115], [100, 111, 117, 98, 116, 115], [104, 97, 110, 100], [111, 102], [101, 110, 100], [116, 117, 114, 110], [115, 116, 111, 112], [108, 111, 111, 112], [119, 104, 101, 110], [99, 97, 114, 100, 115], [104, 101, 97, 112], [115, 104, 111, 119, 110], [119, 111, 110]]
def q_str : List (String × Nat × String × Nat) := [("CheatHeap$TableReader", 55, "kinds", 0), ("CheatHeap$TableReader", 65, "each", 1), ("CheatHeap$TableReader", 80, "law", 2), ("CheatHeap$TableReader", 110, "up", 3), ("CheatHeap$TableReader", 114, "down", 4), ("CheatHeap$TableReader", 116, "same", 5), ("CheatHeap$TableReader", 88, "most", 6), ("CheatHeap$TableReader", 93, "player", 7), ("CheatHeap$Reader", 68, "kinds each law most player lies doubts hand of up down same turn when cards heap won shown loop end stop ", 8), ("CheatHeap$TableReader", 134, "lies", 9), ("CheatHeap$TableReader", 149, "doubts", 10), ("CheatHeap$TableReader", 98, "hand", 11), ("CheatHeap$TableReader", 162, "of", 12), ("CheatHeap$RoundReader", 41, "end", 13), ("CheatHeap$RoundReader", 100, "turn", 14), ("CheatHeap$RoundReader", 102, "lies", 9), ("CheatHeap$RoundReader", 104, "doubts", 10), ("CheatHeap$RoundReader", 106, "stop", 15), ("CheatHeap$RoundReader", 108, "loop", 16), ("CheatHeap$RoundReader", 110, "when", 17), ("CheatHeap$RoundReader", 112, "cards", 18), ("CheatHeap$RoundReader", 117, "heap", 19), ("CheatHeap$RoundReader", 119, "shown", 20), ("CheatHeap$RoundReader", 121, "won", 21)]
def q_nest : List (String × Nat × MethodName × String) := [("CheatHeap", 41, ⟨"CheatHeap$Game", "<init>", "()V"⟩, "CheatHeap"), ("CheatHeap$Game", 11, ⟨"CheatHeap$Rules", "<init>", "()V"⟩, "CheatHeap"), ("CheatHeap$Game", 20, ⟨"CheatHeap$Hands", "<init>", "()V"⟩, "CheatHeap"), ("CheatHeap$Game", 27, ⟨"CheatHeap$Pile", "<init>", "()V"⟩, "CheatHeap"), ("CheatHeap$Game", 34, ⟨"CheatHeap$Script", "<init>", "()V"⟩, "CheatHeap"), ("CheatHeap", 58, ⟨"CheatHeap$TableReader", "<init>", "()V"⟩, "CheatHeap"), ("CheatHeap$TableReader", 3, ⟨"CheatHeap$Reader", "<init>", "()V"⟩, "CheatHeap"), ("CheatHeap$TableReader", 11, ⟨"CheatHeap$Game", "<init>", "()V"⟩, "CheatHeap"), ("CheatHeap", 65, ⟨"CheatHeap$RoundReader", "<init>", "()V"⟩, "CheatHeap"), ("CheatHeap$RoundReader", 3, ⟨"CheatHeap$Reader", "<init>", "()V"⟩, "CheatHeap"), ("CheatHeap$RoundReader", 11, ⟨"CheatHeap$Script", "<init>", "()V"⟩, "CheatHeap"), ("CheatHeap", 72, ⟨"CheatHeap$Run", "<init>", "()V"⟩, "CheatHeap"), ("CheatHeap", 84, ⟨"CheatHeap$Tray", "<init>", "()V"⟩, "CheatHeap"), ("CheatHeap$Game", 165, ⟨"CheatHeap", "waysToTake", "(II)J"⟩, "CheatHeap")]
def q_SR (X : XW) (U : State) : Prop := ∀ r ∈ q_str, vk_R r.1 r.2.1 r.2.2.1 (q_sk X r.2.2.2) U
def q_NW (U : State) : Prop := ∀ r ∈ q_nest, va_Nw (.methodLinkNest r.1 r.2.1 r.2.2.1 r.2.2.2) U
/-- private methods of a class above are what their own calls select -/
def q_extra : List Cond := [.selects RX4 yX3_endOfRun yX3_endOfRun, .selects RX9 yX3_endOfRun yX3_endOfRun, .selects RX4 yX3_isReserved yX3_isReserved, .selects RX9 yX3_isReserved yX3_isReserved]
def q_tbl : List Cond := q_extra ++ lw_tbl.filter goodWord
def q_KX (X : XW) (U : State) : Prop := va_K (q_gD X) vwCl (q_tys X) U ∧ q_NW U ∧ q_SR X U
def q_SW (X : XW) (U : State) (H : Heap) : Prop := vk_S 22 q_slen q_sbyt (q_sk X) (q_sv X) (q_reg X) U H ∧ va_Z "java/lang/String" "COMPACT_STRINGS" "Z" (.int 1) (q_reg X) U H ∧ va_Zq "jdk/internal/util/Preconditions" "SIOOBE_FORMATTER" "Ljava/util/function/BiFunction;" (q_reg X) U H
def q_Pre (X : XW) (σ : ST) (U : State) : Prop := q_T X ∧ q_R X σ U.heap ∧ q_B X σ ∧ q_TT X σ ∧ q_KX X U ∧ q_SW X U U.heap
def q_Post (X : XW) (n : Nat) (σ σ' : ST) (H : Heap) : Prop := q_R X σ' H ∧ q_B X σ' ∧ q_TT X σ' ∧ q_K n X σ σ'
def q_E (p : Program) (c : Code) (cc : ByteArray) (s : State) (m : MethodId) (args : Array Value) (own : String) (X : XW) : Prop :=
  p.tables.exec = Jvm.exec ∧ c.code = cc ∧ s.vm.findClass own = some m.cls ∧ (∀ w ∈ q_tbl, w.before args s = true) ∧ q_KX X s ∧ q_SW X s s.heap
def q_ws (y : MethodName) (cc : ByteArray) (mL : Nat) (ret : Option FieldType) : List Cond := Cond.code y cc mL ret :: q_tbl
def q_rm (f w : Nat) : Room := { frames := f, cells := 0, slots := 0, locals := w }
/-! the state, one cell changed -/
def q_si (σ : ST) (a f : Nat) (v : Int32) : ST := (fun b g => if b = a ∧ g = f then v else σ.1 b g, σ.2)
def q_sl (σ : ST) (a f : Nat) (v : Int64) : ST := (σ.1, (fun b g => if b = a ∧ g = f then v else σ.2.1 b g, σ.2.2))
def q_st (σ : ST) (a v : Nat) : ST := (σ.1, (σ.2.1, fun b => if b = a then v else σ.2.2 b))
theorem q_full_in (v : Int32) : q_in q_full v := ⟨by have := Int32.le_toInt v; simp [q_full]; omega, by have := Int32.toInt_lt v; simp [q_full]; omega⟩
theorem q_inU {k f : Nat} {v : Int32} (h : q_bn k f = q_full) : q_in (q_bn k f) v := by rw [h]; exact q_full_in v
theorem q_inB {k f : Nat} {v : Int32} {lo hi : Int} (h : q_bn k f = (lo, hi)) (h1 : lo ≤ v.toInt) (h2 : v.toInt ≤ hi) : q_in (q_bn k f) v := by rw [h]; exact ⟨h1, h2⟩
theorem q_rng (v : Int32) : -2147483648 ≤ v.toInt ∧ v.toInt ≤ 2147483647 := ⟨(q_full_in v).1, (q_full_in v).2⟩
theorem q_K.rf {n : Nat} {X : XW} {σ : ST} : q_K n X σ σ := fun _ _ _ => rfl
theorem q_K.tr {n : Nat} {X : XW} {σ σ' σ'' : ST} (h : q_K n X σ σ') (h2 : q_K n X σ' σ'') : q_K n X σ σ'' := fun a f q => (h2 a f q).trans (h a f q)
theorem q_K.le {n n' : Nat} {X : XW} {σ σ' : ST} (h : q_K n X σ σ') (hn : n' ≤ n) : q_K n' X σ σ' := fun a f q => h a f (Nat.le_trans q hn)
theorem q_K.si {n : Nat} {X : XW} {σ : ST} {a k f : Nat} {v : Int32} (ha : q_kd X a = k) (h : n < q_cl k f) : q_K n X σ (q_si σ a f v) := by
  intro b g q
  show (if b = a ∧ g = f then v else σ.1 b g) = _
  rw [if_neg]
  rintro ⟨rfl, rfl⟩
  rw [ha] at q
  omega
theorem q_fv_si {X : XW} {σ : ST} {k a f : Nat} {v : Int32} (hf : q_ft k f = 0) (g : Nat) : updV (q_fvk X σ k a) f (.int v) g = q_fvk X (q_si σ a f v) k a g := by
  unfold updV
  by_cases hg : g = f
  · subst hg
    rw [if_pos rfl]
    unfold q_fvk q_si
    rw [hf]
    simp
  · rw [if_neg hg]
    unfold q_fvk q_si
    simp [hg]
theorem q_fv_sl {X : XW} {σ : ST} {k a f : Nat} {v : Int64} (hf : q_ft k f = 1) (g : Nat) : updV (q_fvk X σ k a) f (.long v) g = q_fvk X (q_sl σ a f v) k a g := by
  unfold updV
  by_cases hg : g = f
  · subst hg
    rw [if_pos rfl]
    unfold q_fvk q_sl
    rw [hf]
    simp
  · rw [if_neg hg]
    unfold q_fvk q_sl
    simp [hg]
theorem q_fv_st {X : XW} {σ : ST} {k a v : Nat} (hf : ∀ g, q_ft k g = 3 ↔ g = 0) (h3 : ∀ g, q_ft k g ≤ 3) (g : Nat) : updV (q_fvk X σ k a) 0 (.ref v) g = q_fvk X (q_st σ a v) k a g := by
  unfold updV
  by_cases hg : g = 0
  · subst hg
    rw [if_pos rfl]
    unfold q_fvk q_st
    rw [(hf 0).mpr rfl]
    simp
  · rw [if_neg hg]
    have h1 : q_ft k g ≠ 3 := fun h => hg ((hf g).mp h)
    have h2 := h3 g
    unfold q_fvk q_st
    generalize q_ft k g = z at h1 h2
    match z, h1, h2 with
    | 0, _, _ => rfl
    | 1, _, _ => rfl
    | 2, _, _ => rfl
    | 3, h1, _ => exact absurd rfl h1
theorem q_cf.ne {X : XW} {σ σ' : ST} {b : Nat} {H H1 : Heap} (h : q_cf X σ b H) (e1 : ∀ g, σ'.1 b g = σ.1 b g) (e2 : ∀ g, σ'.2.1 b g = σ.2.1 b g) (e3 : σ'.2.2 b = σ.2.2 b) (hq : H1[b]? = H[b]?) : q_cf X σ' b H1 := by
  have f1 : q_fvk X σ' (q_kd X b) b = q_fvk X σ (q_kd X b) b := by
    funext g
    unfold q_fvk
    rw [e1, e2, e3]
  have f2 : q_av X σ' (q_kd X b) b = q_av X σ (q_kd X b) b := by
    funext g
    unfold q_av
    rw [e1, e2]
  refine ⟨fun hk => ?_, fun hk => ?_⟩
  · obtain ⟨r, h1, h2⟩ := h.1 hk
    refine ⟨r, h1, ?_⟩
    rw [f1]
    exact h2.kept hq
  · rw [f2, hq]
    exact h.2 hk
theorem q_R.kept {X : XW} {σ : ST} {H H1 : Heap} (h : q_R X σ H) (hq : ∀ a, q_kd X a ≠ 0 → H1[a]? = H[a]?) : q_R X σ H1 := fun a ha => (h a ha).ne (fun _ => rfl) (fun _ => rfl) rfl (hq a ha)
theorem q_R.lt {X : XW} {σ : ST} {H : Heap} (h : q_R X σ H) {a : Nat} (ha : q_kd X a ≠ 0) : a < H.size := by
  rcases Nat.lt_or_ge (q_kd X a) 20 with hk | hk
  · obtain ⟨r, -, cell, h2, -⟩ := (h a ha).1 hk
    exact (Array.getElem?_eq_some_iff.mp h2).1
  · exact (Array.getElem?_eq_some_iff.mp ((h a ha).2 hk)).1
/-- what a constant reference leads to -/
theorem q_tk {X : XW} {n : Nat} {σ0 σ : ST} {H0 H : Heap} {locs : List Loc} (hI : q_I X n σ0 H0 locs σ H) {a k f k' : Nat} (ha : q_kd X a = k) (h : q_rk k f = k') (h0 : k' ≠ 0) : q_kd X (q_rf X a f) = k' := by
  have h1 := hI.1.1 a f (by rw [ha, h]; exact h0)
  rw [h1, ha, h]
theorem q_txk {X : XW} {n : Nat} {σ0 σ : ST} {H0 H : Heap} {locs : List Loc} (hI : q_I X n σ0 H0 locs σ H) {a : Nat} (ha : q_kd X a = 4 ∨ q_kd X a = 9) : q_kd X (σ.2.2 a) = 22 := hI.2.2.2.1 a ha
theorem q_lnk {X : XW} {n : Nat} {σ0 σ : ST} {H0 H : Heap} {locs : List Loc} (hI : q_I X n σ0 H0 locs σ H) {a k v : Nat} (ha : q_kd X a = k) (h : q_ll k = v) (h0 : v ≠ 0) : q_ln X a = v := by
  have h1 := hI.1.2.1 a (by rw [ha, h]; exact h0)
  rw [h1, ha, h]
theorem q_bd {X : XW} {n : Nat} {σ0 σ : ST} {H0 H : Heap} {locs : List Loc} (hI : q_I X n σ0 H0 locs σ H) {a k f : Nat} {lo hi : Int} (ha : q_kd X a = k) (h : q_bn k f = (lo, hi)) : lo ≤ (σ.1 a f).toInt ∧ (σ.1 a f).toInt ≤ hi := by
  have h1 := hI.2.2.1 a f
  rw [ha, h] at h1
  exact h1
theorem q_ln11 {X : XW} {n : Nat} {σ0 σ : ST} {H0 H : Heap} {locs : List Loc} (hI : q_I X n σ0 H0 locs σ H) {a : Nat} (ha : q_kd X a = 11) : q_ln X (q_rf X a 4) = 900 := hI.1.2.2.2 a ha
theorem q_bdR {X : XW} {n : Nat} {σ0 σ : ST} {H0 H : Heap} {locs : List Loc} (hI : q_I X n σ0 H0 locs σ H) {a f : Nat} {lo hi : Int} (ha : q_kd X a = 4 ∨ q_kd X a = 9) (h4 : q_bn 4 f = (lo, hi)) (h9 : q_bn 9 f = (lo, hi)) : lo ≤ (σ.1 a f).toInt ∧ (σ.1 a f).toInt ≤ hi := by
  rcases ha with ha | ha
  · exact q_bd hI ha h4
  · exact q_bd hI ha h9
end
/-! FROM 03.rows.lean.txt -/
section
section QR
variable {p : Program} {l : Launch} {e : Env} {R : Room} {s : State} {m : MethodId} {args : Array Value} {below : List Frame} {meth : Method} {c : Code} {H : Heap} {locs : List Loc} {cells slots : Nat} {Q : State → Prop} {cc : ByteArray} {own : String} {X : XW} {n : Nat} {σ0 σ : ST} {H0 : Heap} {pc : Nat} {ls : Array Slot} {rest : List Value} {a k f : Nat}
theorem q_kx_ty {U : State} (hK : va_K (q_gD X) vwCl (q_tys X) U) {t : Nat} {ty : FieldType} (h : (q_tys X)[t]? = some (q_gA X t, ty)) : ArrOfT U (q_gA X t) ty := (hK.2 t _ h).1
theorem q_obj (hI : q_I X n σ0 H0 locs σ H) (ha : q_kd X a = k) {ci N : Nat} {C : String} {T : u_T} (hk : k = ci + 1 ∧ k < 20) (hc : vwCl[ci]? = some (C, T, N)) : t_OB a ((q_gD X).1 ci) N ((q_gD X).2 ci) H (q_fvk X σ k a) := by
  obtain ⟨rfl, h20⟩ := hk
  obtain ⟨r, h1, h2⟩ := (hI.2.1 a (by omega)).1 (by omega)
  rw [ha] at h1 h2
  have hr : r = (C, T, N) := Option.some.inj (h1.symm.trans hc)
  subst hr
  exact h2
theorem q_arr (hI : q_I X n σ0 H0 locs σ H) (ha : q_kd X a = k) (hk : 20 ≤ k) : H[a]? = some (arrV (q_gA X (q_et k)) (q_ln X a) (q_av X σ k a)) := by
  have h := (hI.2.1 a (by omega)).2 (by omega)
  rw [ha] at h
  exact h
/-- getfield -/
theorem q_getf (E : q_E p c cc s m args own X) (hI : q_I X n σ0 H0 locs σ H) (ha : q_kd X a = k) {ci N index : Nat} {C ref : String} {T : u_T} {v : Value} (hk : k = ci + 1 ∧ k < 20) (hc : vwCl[ci]? = some (C, T, N)) (hin : ∀ w ∈ u_ws C T N, w ∈ q_tbl) (hf : f < N)
    (hlink : Cond.fieldLink own index ref (T f).2.1 (T f).2.2.1 ∈ q_tbl) (hsame : ref = (T f).1 ∨ Cond.sameField ref (T f).1 (T f).2.1 (T f).2.2.1 ∈ q_tbl) (hv : q_fvk X σ k a f = v) (hdg : decode cc pc = .ok (.getfield index, 3))
    (kk : W p l e R s m args below meth c H locs cells slots Q (F0 m (pc + 3) ls (v :: rest))) : W p l e R s m args below meth c H locs cells slots Q (F0 m pc ls (.ref a :: rest)) := by
  obtain ⟨hx, hb, hown, hts, ⟨hK, -, -⟩, -⟩ := E
  obtain ⟨cell, q1, q2, q3, q4⟩ := q_obj hI ha hk hc
  obtain ⟨hS, hfc, kC, hkC, hkind⟩ := hK.1 ci _ hc
  obtain ⟨cf, kf, fi, fd, hi, hsl⟩ := hS f hf
  have hi' : s.fieldFound? ref (T f).2.1 (T f).2.2.1 = some (cf, kf, fi, fd) := by
    rcases hsame with h | h
    · rw [h]; exact hi
    · exact u_same (hts _ h) _ hi
  refine W.getf hx hb hown (hts _ hlink) hi' (u_facts hfc hkC (u_lays hts hin hf) hi).1 q1 (by rw [q3]; exact fun h => by cases h) (v := v) ?_ rfl rfl hdg kk
  rw [hsl, q4 f hf, hv]
/-- a cell of the world written -/
theorem q_R.up {σ' : ST} {H1 : Heap} (h : q_R X σ H) (oq : ∀ q : Nat, q ≠ a → H1[q]? = H[q]?) (h1 : q_cf X σ' a H1) (e1 : ∀ b g, b ≠ a → σ'.1 b g = σ.1 b g) (e2 : ∀ b g, b ≠ a → σ'.2.1 b g = σ.2.1 b g) (e3 : ∀ b, b ≠ a → σ'.2.2 b = σ.2.2 b) : q_R X σ' H1 := by
  intro b hb
  by_cases hba : b = a
  · subst hba; exact h1
  · exact (h b hb).ne (fun g => e1 b g hba) (fun g => e2 b g hba) (e3 b hba) (oq b hba)
theorem q_B.si {v : Int32} (h : q_B X σ) (ha : q_kd X a = k) (hv : q_in (q_bn k f) v) : q_B X (q_si σ a f v) := by
  intro b g
  show q_in _ (if b = a ∧ g = f then v else σ.1 b g)
  by_cases hq : b = a ∧ g = f
  · rw [if_pos hq]
    obtain ⟨rfl, rfl⟩ := hq
    rw [ha]
    exact hv
  · rw [if_neg hq]
    exact h b g
/-- putfield of an object, the new value as the state says -/
theorem q_putf (E : q_E p c cc s m args own X) (hI : q_I X n σ0 H0 locs σ H) (ha : q_kd X a = k) {ci N index : Nat} {C ref : String} {T : u_T} {ty0 : Nat → FieldType} {v : Value} (hk : k = ci + 1 ∧ k < 20) (hc : vwCl[ci]? = some (C, T, N)) (hin : ∀ w ∈ u_ws C T N, w ∈ q_tbl) (hty : ∀ k, k < N → parseFieldDescriptor (T k).2.2.1 = some (ty0 k)) (hnm : ∀ a, a < N → ∀ b, b < N → a ≠ b → (T a).2.1 ≠ (T b).2.1) (hf : f < N)
    (hlink : Cond.fieldLink own index ref (T f).2.1 (T f).2.2.1 ∈ q_tbl) (hsame : ref = (T f).1 ∨ Cond.sameField ref (T f).1 (T f).2.1 (T f).2.2.1 ∈ q_tbl) (hfin : (T f).2.2.2 = false) {ty : FieldType} (hd : parseFieldDescriptor (T f).2.2.1 = some ty) (hn : narrow ty v = v) (hfit : fits ty v = true)
    {σ1 : ST} (hup : ∀ g, g < N → updV (q_fvk X σ k a) f v g = q_fvk X σ1 k a g) (e1 : ∀ b g, b ≠ a → σ1.1 b g = σ.1 b g) (e2 : ∀ b g, b ≠ a → σ1.2.1 b g = σ.2.1 b g) (e3 : ∀ b, b ≠ a → σ1.2.2 b = σ.2.2 b) (hB : q_B X σ1) (hTT : q_TT X σ1) (hKp : q_K n X σ σ1)
    (hdg : decode cc pc = .ok (.putfield index, 3))
    (kk : ∀ (H1 : Heap) (locs1 : List Loc), q_I X n σ0 H0 locs1 σ1 H1 → W p l e R s m args below meth c H1 locs1 cells slots Q (F0 m (pc + 3) ls rest)) : W p l e R s m args below meth c H locs cells slots Q (F0 m pc ls (v :: .ref a :: rest)) := by
  obtain ⟨hx, hb, hown, hts, ⟨hK, -, -⟩, -⟩ := E
  obtain ⟨cell, q1, q2, q3, q4⟩ := q_obj hI ha hk hc
  have hap := va_apart (own := own) hts hin ty0 hty hnm hK hc
  obtain ⟨hS, hfc, kC, hkC, hkind⟩ := hK.1 ci _ hc
  obtain ⟨cf, kf, fi, fd, hi, hsl⟩ := hS f hf
  have hi' : s.fieldFound? ref (T f).2.1 (T f).2.2.1 = some (cf, kf, fi, fd) := by
    rcases hsame with h | h
    · rw [h]; exact hi
    · exact u_same (hts _ h) _ hi
  have hlay := hts _ (hin _ (u_in_lay hf))
  unfold u_lay at hlay
  rw [if_neg (by rw [hfin]; decide)] at hlay
  have hst := (u_facts hfc hkC (u_lays hts hin hf) hi).1
  have h6 := u_store hfc hkC hkind hlay hi hd hn hfit
  refine W.putK hx hb (f := fd) ⟨hown, hts _ hlink, ⟨_, _, _, hi'⟩, hst⟩ (by rw [q2]; exact h6) q1 q3 (by rw [hsl]; exact k2_hasslot (q4 f hf)) rfl rfl hdg fun H' g1 g2 g3 => ?_
  rw [hsl] at g1 ⊢
  obtain ⟨i1, i2, i3, i4, i5, i6⟩ := hI
  obtain ⟨rfl, h20⟩ := hk
  refine kk H' _ ⟨i1, i2.up g3 ⟨fun _ => ?_, fun h => absurd h (by omega)⟩ e1 e2 e3, hB, hTT, i5.put g2 g3 (by show q_kd X a ≠ 0; omega), i6.tr hKp⟩
  rw [ha]
  refine ⟨_, hc, ?_⟩
  exact t_OB.to (V := updV (q_fvk X σ (ci + 1) a) f v) ⟨_, g1, q2, q3, t_set q4 hap hf v⟩ hup
theorem q_nar0 {ty : FieldType} {v : Int32} (h : ty = .int ∨ (ty = .boolean ∧ 0 ≤ v.toInt ∧ v.toInt ≤ 1)) : narrow ty (.int v) = .int v ∧ fits ty (.int v) = true := by
  rcases h with rfl | ⟨rfl, h1, h2⟩
  · exact ⟨rfl, rfl⟩
  · have h3 : v = 0 ∨ v = 1 := by
      rcases (show v.toInt = 0 ∨ v.toInt = 1 by omega) with h | h
      · exact Or.inl (Int32.toInt_inj.mp (by rw [h]; rfl))
      · exact Or.inr (Int32.toInt_inj.mp (by rw [h]; rfl))
    rcases h3 with rfl | rfl <;> exact ⟨rfl, rfl⟩
/-- putfield of an int or boolean -/
theorem q_puti (E : q_E p c cc s m args own X) (hI : q_I X n σ0 H0 locs σ H) (ha : q_kd X a = k) {ci N index : Nat} {C ref : String} {T : u_T} {ty0 : Nat → FieldType} {v : Int32} (hk : k = ci + 1 ∧ k < 20) (hc : vwCl[ci]? = some (C, T, N)) (hin : ∀ w ∈ u_ws C T N, w ∈ q_tbl) (hty : ∀ k, k < N → parseFieldDescriptor (T k).2.2.1 = some (ty0 k)) (hnm : ∀ a, a < N → ∀ b, b < N → a ≠ b → (T a).2.1 ≠ (T b).2.1) (hf : f < N)
    (hlink : Cond.fieldLink own index ref (T f).2.1 (T f).2.2.1 ∈ q_tbl) (hsame : ref = (T f).1 ∨ Cond.sameField ref (T f).1 (T f).2.1 (T f).2.2.1 ∈ q_tbl) (hfin : (T f).2.2.2 = false) (hft : q_ft k f = 0) (hcl : n < q_cl k f) (hdg : decode cc pc = .ok (.putfield index, 3))
    (hv : q_in (q_bn k f) v) (hn : ty0 f = .int ∨ (ty0 f = .boolean ∧ 0 ≤ v.toInt ∧ v.toInt ≤ 1))
    (kk : ∀ (H1 : Heap) (locs1 : List Loc), q_I X n σ0 H0 locs1 (q_si σ a f v) H1 → W p l e R s m args below meth c H1 locs1 cells slots Q (F0 m (pc + 3) ls rest)) : W p l e R s m args below meth c H locs cells slots Q (F0 m pc ls (.int v :: .ref a :: rest)) := by
  refine q_putf E hI ha hk hc hin hty hnm hf hlink hsame hfin (hty f hf) (q_nar0 hn).1 (q_nar0 hn).2 (fun g _ => q_fv_si hft g) (fun b g hb => ?_) (fun _ _ _ => rfl) (fun _ _ => rfl) (hI.2.2.1.si ha hv) hI.2.2.2.1 (q_K.si ha hcl) hdg kk
  show (if b = a ∧ g = f then v else σ.1 b g) = _
  rw [if_neg (fun h => hb h.1)]
/-- putfield of a long -/
theorem q_putl (E : q_E p c cc s m args own X) (hI : q_I X n σ0 H0 locs σ H) (ha : q_kd X a = k) {ci N index : Nat} {C ref : String} {T : u_T} {ty0 : Nat → FieldType} {v : Int64} (hk : k = ci + 1 ∧ k < 20) (hc : vwCl[ci]? = some (C, T, N)) (hin : ∀ w ∈ u_ws C T N, w ∈ q_tbl) (hty : ∀ k, k < N → parseFieldDescriptor (T k).2.2.1 = some (ty0 k)) (hnm : ∀ a, a < N → ∀ b, b < N → a ≠ b → (T a).2.1 ≠ (T b).2.1) (hf : f < N)
    (hlink : Cond.fieldLink own index ref (T f).2.1 (T f).2.2.1 ∈ q_tbl) (hsame : ref = (T f).1 ∨ Cond.sameField ref (T f).1 (T f).2.1 (T f).2.2.1 ∈ q_tbl) (hfin : (T f).2.2.2 = false) (hft : q_ft k f = 1) (hty2 : ty0 f = .long) (hdg : decode cc pc = .ok (.putfield index, 3))
    (kk : ∀ (H1 : Heap) (locs1 : List Loc), q_I X n σ0 H0 locs1 (q_sl σ a f v) H1 → W p l e R s m args below meth c H1 locs1 cells slots Q (F0 m (pc + 3) ls rest)) : W p l e R s m args below meth c H locs cells slots Q (F0 m pc ls (.long v :: .ref a :: rest)) := by
  refine q_putf E hI ha hk hc hin hty hnm hf hlink hsame hfin (hty f hf) (by rw [hty2]; rfl) (by rw [hty2]; rfl) (fun g _ => q_fv_sl hft g) (fun _ _ _ => rfl) (fun b g hb => ?_) (fun _ _ => rfl) hI.2.2.1 hI.2.2.2.1 (fun _ _ _ => rfl) hdg kk
  show (if b = a ∧ g = f then v else σ.2.1 b g) = _
  rw [if_neg (fun h => hb h.1)]
/-- putfield of a reader's text -/
theorem q_putt (E : q_E p c cc s m args own X) (hI : q_I X n σ0 H0 locs σ H) (ha : q_kd X a = k) {ci N index : Nat} {C ref : String} {T : u_T} {ty0 : Nat → FieldType} {v : Nat} (hk : k = ci + 1 ∧ k < 20) (hk2 : k = 4 ∨ k = 9) (hc : vwCl[ci]? = some (C, T, N)) (hin : ∀ w ∈ u_ws C T N, w ∈ q_tbl) (hty : ∀ k, k < N → parseFieldDescriptor (T k).2.2.1 = some (ty0 k)) (hnm : ∀ a, a < N → ∀ b, b < N → a ≠ b → (T a).2.1 ≠ (T b).2.1) (hf : 0 < N)
    (hlink : Cond.fieldLink own index ref (T 0).2.1 (T 0).2.2.1 ∈ q_tbl) (hsame : ref = (T 0).1 ∨ Cond.sameField ref (T 0).1 (T 0).2.1 (T 0).2.2.1 ∈ q_tbl) (hfin : (T 0).2.2.2 = false) (hty2 : ty0 0 = .array .byte) (hv : q_kd X v = 22) (hdg : decode cc pc = .ok (.putfield index, 3))
    (kk : ∀ (H1 : Heap) (locs1 : List Loc), q_I X n σ0 H0 locs1 (q_st σ a v) H1 → W p l e R s m args below meth c H1 locs1 cells slots Q (F0 m (pc + 3) ls rest)) : W p l e R s m args below meth c H locs cells slots Q (F0 m pc ls (.ref v :: .ref a :: rest)) := by
  have hft : ∀ g, q_ft k g = 3 ↔ g = 0 := by
    intro g
    rcases hk2 with rfl | rfl
    · refine ⟨fun h => ?_, fun h => by rw [h]; rfl⟩
      change (match g with | 0 => 3 | 8 => 2 | 9 => 2 | _ => 0) = 3 at h
      split at h <;> first | rfl | cases h
    · refine ⟨fun h => ?_, fun h => by rw [h]; rfl⟩
      change (match g with | 0 => 3 | 8 => 2 | 11 => 2 | _ => 0) = 3 at h
      split at h <;> first | rfl | cases h
  have hft3 : ∀ g, q_ft k g ≤ 3 := by
    intro g
    unfold q_ft
    split <;> (try split) <;> decide
  refine q_putf (f := 0) E hI ha hk hc hin hty hnm hf hlink hsame hfin (hty 0 hf) (by rw [hty2]; rfl) (by rw [hty2]; rfl) (fun g _ => q_fv_st hft hft3 g) (fun _ _ _ => rfl) (fun _ _ _ => rfl) (fun b hb => ?_) hI.2.2.1 (fun b hb => ?_) (fun _ _ _ => rfl) hdg kk
  · show (if b = a then v else σ.2.2 b) = _
    rw [if_neg hb]
  · show q_kd X (if b = a then v else σ.2.2 b) = 22
    by_cases hq : b = a
    · rw [if_pos hq]; exact hv
    · rw [if_neg hq]; exact hI.2.2.2.1 b hb
/-! arrays -/
theorem q_iald (E : q_E p c cc s m args own X) (hI : q_I X n σ0 H0 locs σ H) (ha : q_kd X a = k) (hk : 20 ≤ k ∧ q_et k = 1) {i : Int32} (h0 : 0 ≤ i.toInt) (h1 : i.toInt < q_ln X a) (hdg : decode cc pc = .ok (.iaload, 1))
    (kk : W p l e R s m args below meth c H locs cells slots Q (F0 m (pc + 1) ls (.int (σ.1 a i.toNatClampNeg) :: rest))) : W p l e R s m args below meth c H locs cells slots Q (F0 m pc ls (.int i :: .ref a :: rest)) := by
  obtain ⟨hx, hb, hown, hts, ⟨hK, -, -⟩, -⟩ := E
  have hc := q_arr hI ha hk.1
  have hin : vp_in i (q_ln X a) := vp_in_iff.mpr ⟨h0, h1⟩
  have hlt : i.toNatClampNeg < q_ln X a := Nat.not_le.mp fun q => hin (Or.inr q)
  rw [hk.2] at hc
  exact W.iald (v := .int (σ.1 a i.toNatClampNeg)) hx hb hc (q_kx_ty hK (t := 1) rfl _ _) (fun q => by cases q) (by rw [arrV_size]; exact hin) (by rw [arrV_read _ _ hlt]; unfold q_av; rw [hk.2]; rfl) rfl rfl hdg kk
theorem q_lald (E : q_E p c cc s m args own X) (hI : q_I X n σ0 H0 locs σ H) (ha : q_kd X a = k) (hk : 20 ≤ k ∧ q_et k = 2) {i : Int32} (h0 : 0 ≤ i.toInt) (h1 : i.toInt < q_ln X a) (hdg : decode cc pc = .ok (.laload, 1))
    (kk : W p l e R s m args below meth c H locs cells slots Q (F0 m (pc + 1) ls (.long (σ.2.1 a i.toNatClampNeg) :: rest))) : W p l e R s m args below meth c H locs cells slots Q (F0 m pc ls (.int i :: .ref a :: rest)) := by
  obtain ⟨hx, hb, hown, hts, ⟨hK, -, -⟩, -⟩ := E
  have hc := q_arr hI ha hk.1
  have hin : vp_in i (q_ln X a) := vp_in_iff.mpr ⟨h0, h1⟩
  have hlt : i.toNatClampNeg < q_ln X a := Nat.not_le.mp fun q => hin (Or.inr q)
  rw [hk.2] at hc
  exact W.lald (v := .long (σ.2.1 a i.toNatClampNeg)) hx hb hc (q_kx_ty hK (t := 2) rfl _ _) (fun q => by cases q) (by rw [arrV_size]; exact hin) (by rw [arrV_read _ _ hlt]; unfold q_av; rw [hk.2]; rfl) rfl rfl hdg kk
theorem q_bald (E : q_E p c cc s m args own X) (hI : q_I X n σ0 H0 locs σ H) (ha : q_kd X a = k) (hk : 20 ≤ k ∧ q_et k = 0) {i : Int32} (h0 : 0 ≤ i.toInt) (h1 : i.toInt < q_ln X a) (hdg : decode cc pc = .ok (.baload, 1))
    (kk : W p l e R s m args below meth c H locs cells slots Q (F0 m (pc + 1) ls (.int (σ.1 a i.toNatClampNeg) :: rest))) : W p l e R s m args below meth c H locs cells slots Q (F0 m pc ls (.int i :: .ref a :: rest)) := by
  obtain ⟨hx, hb, hown, hts, ⟨hK, -, -⟩, -⟩ := E
  have hc := q_arr hI ha hk.1
  have hin : vp_in i (q_ln X a) := vp_in_iff.mpr ⟨h0, h1⟩
  have hlt : i.toNatClampNeg < q_ln X a := Nat.not_le.mp fun q => hin (Or.inr q)
  rw [hk.2] at hc
  exact W.bald (v := .int (σ.1 a i.toNatClampNeg)) hx hb hc (q_kx_ty hK (t := 0) rfl _ _) (fun q => by cases q) (by rw [arrV_size]; exact hin) (by rw [arrV_read _ _ hlt]; unfold q_av; rw [hk.2]; rfl) rfl rfl hdg kk
theorem q_aald (E : q_E p c cc s m args own X) (hI : q_I X n σ0 H0 locs σ H) (ha : q_kd X a = k) (hk : k = 23 ∨ k = 24) {i : Int32} (h0 : 0 ≤ i.toInt) (h1 : i.toInt < q_ln X a) (hdg : decode cc pc = .ok (.aaload, 1))
    (kk : W p l e R s m args below meth c H locs cells slots Q (F0 m (pc + 1) ls (.ref (q_rf X a i.toNatClampNeg) :: rest))) : W p l e R s m args below meth c H locs cells slots Q (F0 m pc ls (.int i :: .ref a :: rest)) := by
  obtain ⟨hx, hb, hown, hts, ⟨hK, -, -⟩, -⟩ := E
  have hin : vp_in i (q_ln X a) := vp_in_iff.mpr ⟨h0, h1⟩
  have hlt : i.toNatClampNeg < q_ln X a := Nat.not_le.mp fun q => hin (Or.inr q)
  rcases hk with rfl | rfl
  · exact W.aald (ty := .object "CheatHeap$Tray") (v := .ref (q_rf X a i.toNatClampNeg)) hx hb (q_arr hI ha (by decide)) (q_kx_ty hK (t := 3) rfl _ _) rfl (fun q => by cases q) (by rw [arrV_size]; exact hin) (by rw [arrV_read _ _ hlt]; rfl) rfl rfl hdg kk
  · exact W.aald (ty := .object "CheatHeap$Game") (v := .ref (q_rf X a i.toNatClampNeg)) hx hb (q_arr hI ha (by decide)) (q_kx_ty hK (t := 4) rfl _ _) rfl (fun q => by cases q) (by rw [arrV_size]; exact hin) (by rw [arrV_read _ _ hlt]; rfl) rfl rfl hdg kk
theorem q_alen (E : q_E p c cc s m args own X) (hI : q_I X n σ0 H0 locs σ H) (ha : q_kd X a = k) (hk : 20 ≤ k) {t : Nat} {ty : FieldType} (he : q_et k = t) (ht : (q_tys X)[t]? = some (q_gA X t, ty)) (hdg : decode cc pc = .ok (.arraylength, 1))
    (kk : ∀ z : Int32, z.toInt = (q_ln X a : Int) → W p l e R s m args below meth c H locs cells slots Q (F0 m (pc + 1) ls (.int z :: rest))) : W p l e R s m args below meth c H locs cells slots Q (F0 m pc ls (.ref a :: rest)) := by
  obtain ⟨hx, hb, hown, hts, ⟨hK, -, -⟩, -⟩ := E
  have hc := q_arr hI ha hk
  rw [he] at hc
  have hln := hI.1.2.2.1 a
  exact W.alen (n := Int32.ofNat (q_ln X a)) hx hb hc (q_kx_ty hK ht _ _) (by rw [arrV_size] <;> rfl) rfl rfl hdg (kk _ (nI_toInt (by omega)))
theorem q_acf {σ1 : ST} {H1 : Heap} {z : Nat} {v : Value} (ha : q_kd X a = k) (hk : 20 ≤ k) (e : H1[a]? = some ((arrV (q_gA X (q_et k)) (q_ln X a) (q_av X σ k a)).setSlot z v)) (hup : ∀ g, updV (q_av X σ k a) z v g = q_av X σ1 k a g) : q_cf X σ1 a H1 := by
  refine ⟨fun h => absurd h (by omega), fun _ => ?_⟩
  rw [ha, e, arrV_store]
  congr 2
  funext g
  exact hup g
theorem q_iast (E : q_E p c cc s m args own X) (hI : q_I X n σ0 H0 locs σ H) (ha : q_kd X a = k) (hk : 20 ≤ k ∧ q_et k = 1) {i v : Int32} (h0 : 0 ≤ i.toInt) (h1 : i.toInt < q_ln X a) (hcl : n < q_cl k i.toNatClampNeg) (hv : q_in (q_bn k i.toNatClampNeg) v) (hdg : decode cc pc = .ok (.iastore, 1))
    (kk : ∀ (H1 : Heap) (locs1 : List Loc), q_I X n σ0 H0 locs1 (q_si σ a i.toNatClampNeg v) H1 → W p l e R s m args below meth c H1 locs1 cells slots Q (F0 m (pc + 1) ls rest)) : W p l e R s m args below meth c H locs cells slots Q (F0 m pc ls (.int v :: .int i :: .ref a :: rest)) := by
  obtain ⟨hx, hb, hown, hts, ⟨hK, -, -⟩, -⟩ := E
  have hc := q_arr hI ha hk.1
  have hin : vp_in i (q_ln X a) := vp_in_iff.mpr ⟨h0, h1⟩
  refine W.iast hx hb hc (by rw [hk.2]; exact q_kx_ty hK (t := 1) rfl _ _) (fun q => by cases q) (by rw [arrV_size]; exact hin) rfl rfl hdg fun H1 g1 g2 g3 => ?_
  obtain ⟨i1, i2, i3, i4, i5, i6⟩ := hI
  refine kk H1 _ ⟨i1, i2.up g3 (q_acf ha hk.1 g1 (fun g => ?_)) (fun b g hb => ?_) (fun _ _ _ => rfl) (fun _ _ => rfl), i3.si ha hv, i4, i5.put g2 g3 (by show q_kd X a ≠ 0; omega), i6.tr (q_K.si ha hcl)⟩
  · unfold updV q_av q_si
    rw [hk.2]
    by_cases hg : g = i.toNatClampNeg
    · subst hg; simp
    · simp [hg]
  · show (if b = a ∧ g = i.toNatClampNeg then v else σ.1 b g) = _
    rw [if_neg (fun h => hb h.1)]
theorem q_bast (E : q_E p c cc s m args own X) (hI : q_I X n σ0 H0 locs σ H) (ha : q_kd X a = k) (hk : 20 ≤ k ∧ q_et k = 0) {i v : Int32} (h0 : 0 ≤ i.toInt) (h1 : i.toInt < q_ln X a) (hcl : n < q_cl k i.toNatClampNeg) (hv : q_bn k i.toNatClampNeg = q_full) (hdg : decode cc pc = .ok (.bastore, 1))
    (kk : ∀ (H1 : Heap) (locs1 : List Loc), q_I X n σ0 H0 locs1 (q_si σ a i.toNatClampNeg v.toInt8.toInt32) H1 → W p l e R s m args below meth c H1 locs1 cells slots Q (F0 m (pc + 1) ls rest)) : W p l e R s m args below meth c H locs cells slots Q (F0 m pc ls (.int v :: .int i :: .ref a :: rest)) := by
  obtain ⟨hx, hb, hown, hts, ⟨hK, -, -⟩, -⟩ := E
  have hc := q_arr hI ha hk.1
  have hin : vp_in i (q_ln X a) := vp_in_iff.mpr ⟨h0, h1⟩
  refine W.bast hx hb hc (by rw [hk.2]; exact q_kx_ty hK (t := 0) rfl _ _) (fun q => by cases q) (by rw [arrV_size]; exact hin) rfl rfl hdg fun H1 g1 g2 g3 => ?_
  obtain ⟨i1, i2, i3, i4, i5, i6⟩ := hI
  refine kk H1 _ ⟨i1, i2.up g3 (q_acf ha hk.1 g1 (fun g => ?_)) (fun b g hb => ?_) (fun _ _ _ => rfl) (fun _ _ => rfl), i3.si ha (q_inU hv), i4, i5.put g2 g3 (by show q_kd X a ≠ 0; omega), i6.tr (q_K.si ha hcl)⟩
  · unfold updV q_av q_si
    rw [hk.2]
    by_cases hg : g = i.toNatClampNeg
    · subst hg; simp [narrow]
    · simp [hg]
  · show (if b = a ∧ g = i.toNatClampNeg then v.toInt8.toInt32 else σ.1 b g) = _
    rw [if_neg (fun h => hb h.1)]
theorem q_last (E : q_E p c cc s m args own X) (hI : q_I X n σ0 H0 locs σ H) (ha : q_kd X a = k) (hk : 20 ≤ k ∧ q_et k = 2) {i : Int32} {v : Int64} (h0 : 0 ≤ i.toInt) (h1 : i.toInt < q_ln X a) (hdg : decode cc pc = .ok (.lastore, 1))
    (kk : ∀ (H1 : Heap) (locs1 : List Loc), q_I X n σ0 H0 locs1 (q_sl σ a i.toNatClampNeg v) H1 → W p l e R s m args below meth c H1 locs1 cells slots Q (F0 m (pc + 1) ls rest)) : W p l e R s m args below meth c H locs cells slots Q (F0 m pc ls (.long v :: .int i :: .ref a :: rest)) := by
  obtain ⟨hx, hb, hown, hts, ⟨hK, -, -⟩, -⟩ := E
  have hc := q_arr hI ha hk.1
  have hin : vp_in i (q_ln X a) := vp_in_iff.mpr ⟨h0, h1⟩
  refine W.last hx hb hc (by rw [hk.2]; exact q_kx_ty hK (t := 2) rfl _ _) (fun q => by cases q) (by rw [arrV_size]; exact hin) rfl rfl hdg fun H1 g1 g2 g3 => ?_
  obtain ⟨i1, i2, i3, i4, i5, i6⟩ := hI
  refine kk H1 _ ⟨i1, i2.up g3 (q_acf ha hk.1 g1 (fun g => ?_)) (fun _ _ _ => rfl) (fun b g hb => ?_) (fun _ _ => rfl), i3, i4, i5.put g2 g3 (by show q_kd X a ≠ 0; omega), i6.tr (fun _ _ _ => rfl)⟩
  · unfold updV q_av q_sl
    rw [hk.2]
    by_cases hg : g = i.toNatClampNeg
    · subst hg; simp
    · simp [hg]
  · show (if b = a ∧ g = i.toNatClampNeg then v else σ.2.1 b g) = _
    rw [if_neg (fun h => hb h.1)]
end QR
end
/-! FROM 03b.rows.lean.txt -/
section
section QB
variable {p : Program} {l : Launch} {e : Env} {R : Room} {s : State} {m : MethodId} {args : Array Value} {below : List Frame} {meth : Method} {c : Code} {H : Heap} {locs : List Loc} {cells slots : Nat} {Q : State → Prop} {cc : ByteArray} {own : String} {X : XW} {n : Nat} {σ0 σ : ST} {H0 : Heap} {pc : Nat} {ls : Array Slot} {rest : List Value} {a k f : Nat}
theorem q_eqI {x y : Int32} : x = y ↔ x.toInt = y.toInt := Int32.toInt_inj.symm
theorem q_z0 : (0 : Int32).toInt = 0 := rfl
theorem q_icmp_eq (E : q_E p c cc s m args own X) {x y : Int32} {A B : Int} {off : Int} {tgt : Nat} (ea : x.toInt = A) (eb : y.toInt = B) (hdg : decode cc pc = .ok (.if_icmp .eq off, 3)) (ht : (pc : Int) + off = (tgt : Int)) (kt : A = B → W p l e R s m args below meth c H locs cells slots Q (F0 m tgt ls rest)) (kf : A ≠ B → W p l e R s m args below meth c H locs cells slots Q (F0 m (pc + 3) ls rest)) : W p l e R s m args below meth c H locs cells slots Q (F0 m pc ls (.int y :: .int x :: rest)) :=
  lv_icmp_eq E.1 E.2.1 hdg ht (fun h => kt (by rw [← ea, ← eb, h])) (fun h => kf (fun q => h (q_eqI.mpr (by omega))))
theorem q_icmp_ne (E : q_E p c cc s m args own X) {x y : Int32} {A B : Int} {off : Int} {tgt : Nat} (ea : x.toInt = A) (eb : y.toInt = B) (hdg : decode cc pc = .ok (.if_icmp .ne off, 3)) (ht : (pc : Int) + off = (tgt : Int)) (kt : A ≠ B → W p l e R s m args below meth c H locs cells slots Q (F0 m tgt ls rest)) (kf : A = B → W p l e R s m args below meth c H locs cells slots Q (F0 m (pc + 3) ls rest)) : W p l e R s m args below meth c H locs cells slots Q (F0 m pc ls (.int y :: .int x :: rest)) :=
  lv_icmp_ne E.1 E.2.1 hdg ht (fun h => kt (fun q => h (q_eqI.mpr (by omega)))) (fun h => kf (by rw [← ea, ← eb, h]))
theorem q_icmp_lt (E : q_E p c cc s m args own X) {x y : Int32} {A B : Int} {off : Int} {tgt : Nat} (ea : x.toInt = A) (eb : y.toInt = B) (hdg : decode cc pc = .ok (.if_icmp .lt off, 3)) (ht : (pc : Int) + off = (tgt : Int)) (kt : A < B → W p l e R s m args below meth c H locs cells slots Q (F0 m tgt ls rest)) (kf : B ≤ A → W p l e R s m args below meth c H locs cells slots Q (F0 m (pc + 3) ls rest)) : W p l e R s m args below meth c H locs cells slots Q (F0 m pc ls (.int y :: .int x :: rest)) :=
  lv_icmp_lt E.1 E.2.1 hdg ht (fun h => kt (by rw [Int32.lt_iff_toInt_lt] at h; omega)) (fun h => kf (by rw [Int32.lt_iff_toInt_lt] at h; omega))
theorem q_icmp_ge (E : q_E p c cc s m args own X) {x y : Int32} {A B : Int} {off : Int} {tgt : Nat} (ea : x.toInt = A) (eb : y.toInt = B) (hdg : decode cc pc = .ok (.if_icmp .ge off, 3)) (ht : (pc : Int) + off = (tgt : Int)) (kt : B ≤ A → W p l e R s m args below meth c H locs cells slots Q (F0 m tgt ls rest)) (kf : A < B → W p l e R s m args below meth c H locs cells slots Q (F0 m (pc + 3) ls rest)) : W p l e R s m args below meth c H locs cells slots Q (F0 m pc ls (.int y :: .int x :: rest)) :=
  lv_icmp_ge E.1 E.2.1 hdg ht (fun h => kt (by rw [Int32.le_iff_toInt_le] at h; omega)) (fun h => kf (by rw [Int32.le_iff_toInt_le] at h; omega))
theorem q_icmp_gt (E : q_E p c cc s m args own X) {x y : Int32} {A B : Int} {off : Int} {tgt : Nat} (ea : x.toInt = A) (eb : y.toInt = B) (hdg : decode cc pc = .ok (.if_icmp .gt off, 3)) (ht : (pc : Int) + off = (tgt : Int)) (kt : B < A → W p l e R s m args below meth c H locs cells slots Q (F0 m tgt ls rest)) (kf : A ≤ B → W p l e R s m args below meth c H locs cells slots Q (F0 m (pc + 3) ls rest)) : W p l e R s m args below meth c H locs cells slots Q (F0 m pc ls (.int y :: .int x :: rest)) :=
  lv_icmp_gt E.1 E.2.1 hdg ht (fun h => kt (by rw [Int32.lt_iff_toInt_lt] at h; omega)) (fun h => kf (by rw [Int32.lt_iff_toInt_lt] at h; omega))
theorem q_icmp_le (E : q_E p c cc s m args own X) {x y : Int32} {A B : Int} {off : Int} {tgt : Nat} (ea : x.toInt = A) (eb : y.toInt = B) (hdg : decode cc pc = .ok (.if_icmp .le off, 3)) (ht : (pc : Int) + off = (tgt : Int)) (kt : A ≤ B → W p l e R s m args below meth c H locs cells slots Q (F0 m tgt ls rest)) (kf : B < A → W p l e R s m args below meth c H locs cells slots Q (F0 m (pc + 3) ls rest)) : W p l e R s m args below meth c H locs cells slots Q (F0 m pc ls (.int y :: .int x :: rest)) :=
  lv_icmp_le E.1 E.2.1 hdg ht (fun h => kt (by rw [Int32.le_iff_toInt_le] at h; omega)) (fun h => kf (by rw [Int32.le_iff_toInt_le] at h; omega))
theorem q_if_eq (E : q_E p c cc s m args own X) {x : Int32} {A : Int} {off : Int} {tgt : Nat} (ea : x.toInt = A) (hdg : decode cc pc = .ok (.ifCond .eq off, 3)) (ht : (pc : Int) + off = (tgt : Int)) (kt : A = 0 → W p l e R s m args below meth c H locs cells slots Q (F0 m tgt ls rest)) (kf : A ≠ 0 → W p l e R s m args below meth c H locs cells slots Q (F0 m (pc + 3) ls rest)) : W p l e R s m args below meth c H locs cells slots Q (F0 m pc ls (.int x :: rest)) :=
  lv_if_eq E.1 E.2.1 hdg ht (fun h => kt (by rw [← ea, h]; rfl)) (fun h => kf (fun q => h (q_eqI.mpr (by rw [q_z0]; omega))))
theorem q_if_ne (E : q_E p c cc s m args own X) {x : Int32} {A : Int} {off : Int} {tgt : Nat} (ea : x.toInt = A) (hdg : decode cc pc = .ok (.ifCond .ne off, 3)) (ht : (pc : Int) + off = (tgt : Int)) (kt : A ≠ 0 → W p l e R s m args below meth c H locs cells slots Q (F0 m tgt ls rest)) (kf : A = 0 → W p l e R s m args below meth c H locs cells slots Q (F0 m (pc + 3) ls rest)) : W p l e R s m args below meth c H locs cells slots Q (F0 m pc ls (.int x :: rest)) :=
  lv_if_ne E.1 E.2.1 hdg ht (fun h => kt (fun q => h (q_eqI.mpr (by rw [q_z0]; omega)))) (fun h => kf (by rw [← ea, h]; rfl))
theorem q_if_lt (E : q_E p c cc s m args own X) {x : Int32} {A : Int} {off : Int} {tgt : Nat} (ea : x.toInt = A) (hdg : decode cc pc = .ok (.ifCond .lt off, 3)) (ht : (pc : Int) + off = (tgt : Int)) (kt : A < 0 → W p l e R s m args below meth c H locs cells slots Q (F0 m tgt ls rest)) (kf : 0 ≤ A → W p l e R s m args below meth c H locs cells slots Q (F0 m (pc + 3) ls rest)) : W p l e R s m args below meth c H locs cells slots Q (F0 m pc ls (.int x :: rest)) :=
  lv_if_lt E.1 E.2.1 hdg ht (fun h => kt (by rw [Int32.lt_iff_toInt_lt, q_z0] at h; omega)) (fun h => kf (by rw [Int32.lt_iff_toInt_lt, q_z0] at h; omega))
theorem q_if_ge (E : q_E p c cc s m args own X) {x : Int32} {A : Int} {off : Int} {tgt : Nat} (ea : x.toInt = A) (hdg : decode cc pc = .ok (.ifCond .ge off, 3)) (ht : (pc : Int) + off = (tgt : Int)) (kt : 0 ≤ A → W p l e R s m args below meth c H locs cells slots Q (F0 m tgt ls rest)) (kf : A < 0 → W p l e R s m args below meth c H locs cells slots Q (F0 m (pc + 3) ls rest)) : W p l e R s m args below meth c H locs cells slots Q (F0 m pc ls (.int x :: rest)) :=
  lv_if_ge E.1 E.2.1 hdg ht (fun h => kt (by rw [Int32.le_iff_toInt_le, q_z0] at h; omega)) (fun h => kf (by rw [Int32.le_iff_toInt_le, q_z0] at h; omega))
theorem q_if_gt (E : q_E p c cc s m args own X) {x : Int32} {A : Int} {off : Int} {tgt : Nat} (ea : x.toInt = A) (hdg : decode cc pc = .ok (.ifCond .gt off, 3)) (ht : (pc : Int) + off = (tgt : Int)) (kt : 0 < A → W p l e R s m args below meth c H locs cells slots Q (F0 m tgt ls rest)) (kf : A ≤ 0 → W p l e R s m args below meth c H locs cells slots Q (F0 m (pc + 3) ls rest)) : W p l e R s m args below meth c H locs cells slots Q (F0 m pc ls (.int x :: rest)) :=
  lv_if_gt E.1 E.2.1 hdg ht (fun h => kt (by rw [Int32.lt_iff_toInt_lt, q_z0] at h; omega)) (fun h => kf (by rw [Int32.lt_iff_toInt_lt, q_z0] at h; omega))
theorem q_if_le (E : q_E p c cc s m args own X) {x : Int32} {A : Int} {off : Int} {tgt : Nat} (ea : x.toInt = A) (hdg : decode cc pc = .ok (.ifCond .le off, 3)) (ht : (pc : Int) + off = (tgt : Int)) (kt : A ≤ 0 → W p l e R s m args below meth c H locs cells slots Q (F0 m tgt ls rest)) (kf : 0 < A → W p l e R s m args below meth c H locs cells slots Q (F0 m (pc + 3) ls rest)) : W p l e R s m args below meth c H locs cells slots Q (F0 m pc ls (.int x :: rest)) :=
  lv_if_le E.1 E.2.1 hdg ht (fun h => kt (by rw [Int32.le_iff_toInt_le, q_z0] at h; omega)) (fun h => kf (by rw [Int32.le_iff_toInt_le, q_z0] at h; omega))
/-- compare of longs -/
theorem q_lcmp (E : q_E p c cc s m args own X) {x y : Int64} (hdg : decode cc pc = .ok (.lcmp, 1)) (kk : ∀ z : Int32, ((z.toInt < 0 ↔ x.toInt < y.toInt) ∧ (0 < z.toInt ↔ y.toInt < x.toInt)) → W p l e R s m args below meth c H locs cells slots Q (F0 m (pc + 1) ls (.int z :: rest))) : W p l e R s m args below meth c H locs cells slots Q (F0 m pc ls (.long y :: .long x :: rest)) := by
  refine W.lcmp E.1 E.2.1 hdg (kk _ ⟨?_, ?_⟩)
  · have h := lg_cmp_lt x y
    rw [Int32.lt_iff_toInt_lt, q_z0, Int64.lt_iff_toInt_lt] at h
    exact h
  · have h := lg_cmp_gt x y
    rw [Int32.lt_iff_toInt_lt, q_z0, Int64.lt_iff_toInt_lt] at h
    exact h
/-- stores into arrays, the new state named -/
theorem q_iastN (E : q_E p c cc s m args own X) (hI : q_I X n σ0 H0 locs σ H) (ha : q_kd X a = k) (hk : 20 ≤ k ∧ q_et k = 1) {i v : Int32} (h0 : 0 ≤ i.toInt) (h1 : i.toInt < q_ln X a) (hcl : n < q_cl k i.toNatClampNeg) (hv : q_in (q_bn k i.toNatClampNeg) v) (hdg : decode cc pc = .ok (.iastore, 1))
    (kk : ∀ (H1 : Heap) (locs1 : List Loc) (σ1 : ST), σ1 = q_si σ a i.toNatClampNeg v → q_I X n σ0 H0 locs1 σ1 H1 → W p l e R s m args below meth c H1 locs1 cells slots Q (F0 m (pc + 1) ls rest)) : W p l e R s m args below meth c H locs cells slots Q (F0 m pc ls (.int v :: .int i :: .ref a :: rest)) :=
  q_iast E hI ha hk h0 h1 hcl hv hdg (fun H1 l1 h => kk H1 l1 _ rfl h)
theorem q_bastN (E : q_E p c cc s m args own X) (hI : q_I X n σ0 H0 locs σ H) (ha : q_kd X a = k) (hk : 20 ≤ k ∧ q_et k = 0) {i v : Int32} (h0 : 0 ≤ i.toInt) (h1 : i.toInt < q_ln X a) (hcl : n < q_cl k i.toNatClampNeg) (hv : q_bn k i.toNatClampNeg = q_full) (hdg : decode cc pc = .ok (.bastore, 1))
    (kk : ∀ (H1 : Heap) (locs1 : List Loc) (σ1 : ST), σ1 = q_si σ a i.toNatClampNeg v.toInt8.toInt32 → q_I X n σ0 H0 locs1 σ1 H1 → W p l e R s m args below meth c H1 locs1 cells slots Q (F0 m (pc + 1) ls rest)) : W p l e R s m args below meth c H locs cells slots Q (F0 m pc ls (.int v :: .int i :: .ref a :: rest)) :=
  q_bast E hI ha hk h0 h1 hcl hv hdg (fun H1 l1 h => kk H1 l1 _ rfl h)
theorem q_lastN (E : q_E p c cc s m args own X) (hI : q_I X n σ0 H0 locs σ H) (ha : q_kd X a = k) (hk : 20 ≤ k ∧ q_et k = 2) {i : Int32} {v : Int64} (h0 : 0 ≤ i.toInt) (h1 : i.toInt < q_ln X a) (hdg : decode cc pc = .ok (.lastore, 1))
    (kk : ∀ (H1 : Heap) (locs1 : List Loc) (σ1 : ST), σ1 = q_sl σ a i.toNatClampNeg v → q_I X n σ0 H0 locs1 σ1 H1 → W p l e R s m args below meth c H1 locs1 cells slots Q (F0 m (pc + 1) ls rest)) : W p l e R s m args below meth c H locs cells slots Q (F0 m pc ls (.long v :: .int i :: .ref a :: rest)) :=
  q_last E hI ha hk h0 h1 hdg (fun H1 l1 h => kk H1 l1 _ rfl h)
end QB
theorem q_tk23 {X : XW} {n : Nat} {σ0 σ : ST} {H0 H : Heap} {locs : List Loc} (hI : q_I X n σ0 H0 locs σ H) {a : Nat} (ha : q_kd X a = 23) {i : Int32} (h0 : 0 ≤ i.toInt) (h1 : i.toInt < 4) : q_kd X (q_rf X a i.toNatClampNeg) = 10 := by
  have hv : vp_in i 4 := vp_in_iff.mpr ⟨h0, by simpa using h1⟩
  obtain ⟨j, hj, rfl⟩ := vp_in_of hv (by decide)
  rw [nI_clamp (by omega)]
  exact q_tk hI ha (by match j, hj with | 0, _ => rfl | 1, _ => rfl | 2, _ => rfl | 3, _ => rfl) (by decide)
theorem q_tk24 {X : XW} {n : Nat} {σ0 σ : ST} {H0 H : Heap} {locs : List Loc} (hI : q_I X n σ0 H0 locs σ H) {a : Nat} (ha : q_kd X a = 24) {i : Int32} (h0 : 0 ≤ i.toInt) (h1 : i.toInt < 3) : q_kd X (q_rf X a i.toNatClampNeg) = 1 := by
  have hv : vp_in i 3 := vp_in_iff.mpr ⟨h0, by simpa using h1⟩
  obtain ⟨j, hj, rfl⟩ := vp_in_of hv (by decide)
  rw [nI_clamp (by omega)]
  exact q_tk hI ha (by match j, hj with | 0, _ => rfl | 1, _ => rfl | 2, _ => rfl) (by decide)
theorem q_ne0 {y : Int32} (h : y.toInt ≠ 0) : ¬ y = 0 := fun q => h (by rw [q]; rfl)
theorem q_ne0l {y : Int64} (h : y.toInt ≠ 0) : ¬ y = 0 := fun q => h (by rw [q]; rfl)
theorem q_add {x y z : Int32} (e : z = x + y) (h1 : -2147483648 ≤ x.toInt + y.toInt) (h2 : x.toInt + y.toInt ≤ 2147483647) : z.toInt = x.toInt + y.toInt := by
  rw [e, Int32.toInt_add]
  exact Int.bmod_eq_of_le (by omega) (by omega)
theorem q_sub {x y z : Int32} (e : z = x - y) (h1 : -2147483648 ≤ x.toInt - y.toInt) (h2 : x.toInt - y.toInt ≤ 2147483647) : z.toInt = x.toInt - y.toInt := by
  rw [e, Int32.toInt_sub]
  exact Int.bmod_eq_of_le (by omega) (by omega)
theorem q_mul {x y z : Int32} (e : z = x * y) (h1 : -2147483648 ≤ x.toInt * y.toInt) (h2 : x.toInt * y.toInt ≤ 2147483647) : z.toInt = x.toInt * y.toInt := by
  rw [e, Int32.toInt_mul]
  exact Int.bmod_eq_of_le (by omega) (by omega)
theorem q_i2l (x : Int32) : x.toInt64.toInt = x.toInt := Int32.toInt_toInt64 x
theorem q_cn {x : Int32} : x.toNatClampNeg = x.toInt.toNat := rfl
end
/-! FROM 04.calls.lean.txt -/
section
theorem q_goodT : ∀ w ∈ q_tbl, (w.onTables && w.keeps) = true ∨ ∃ ty, w = .arrayClass ty := by
  intro w h
  rcases List.mem_append.mp h with h | h
  · simp only [q_extra, List.mem_cons, List.not_mem_nil, or_false] at h
    rcases h with rfl | rfl | rfl | rfl <;> exact Or.inl rfl
  · exact good_of_word (List.mem_filter.mp h).2
theorem q_goodIn {ws : List Cond} (h : ∀ w ∈ ws, w ∈ q_tbl) : GoodIn q_tbl ws := fun w hw => ⟨h w hw, q_goodT w (h w hw)⟩
/-- a word of the tables by its place -/
theorem q_in_t {i : Nat} {w : Cond} (h : tables_1[i]? = some w) (g : goodWord w = true) : w ∈ q_tbl := List.mem_append_right _ <| List.mem_filter.mpr ⟨List.mem_append_right _ (List.mem_of_getElem? h), g⟩
theorem q_in_m {w : Cond} (h : w ∈ tables_1) (g : goodWord w = true) : w ∈ q_tbl := List.mem_append_right _ <| List.mem_filter.mpr ⟨List.mem_append_right _ h, g⟩
theorem q_in_t1 {i : Nat} {w : Cond} (h : tables_1_1[i]? = some w) (g : goodWord w = true) : w ∈ q_tbl := q_in_m (List.mem_append_left _ (List.mem_of_getElem? h)) g
theorem q_in_t2 {i : Nat} {w : Cond} (h : tables_1_2[i]? = some w) (g : goodWord w = true) : w ∈ q_tbl := q_in_m (List.mem_append_right _ (List.mem_append_left _ (List.mem_of_getElem? h))) g
theorem q_in_t3 {i : Nat} {w : Cond} (h : tables_1_3[i]? = some w) (g : goodWord w = true) : w ∈ q_tbl := q_in_m (List.mem_append_right _ (List.mem_append_right _ (List.mem_append_left _ (List.mem_of_getElem? h)))) g
theorem q_in_t4 {i : Nat} {w : Cond} (h : tables_1_4[i]? = some w) (g : goodWord w = true) : w ∈ q_tbl := q_in_m (List.mem_append_right _ (List.mem_append_right _ (List.mem_append_right _ (List.mem_append_left _ (List.mem_of_getElem? h))))) g
theorem q_in_t5 {i : Nat} {w : Cond} (h : tables_1_5[i]? = some w) (g : goodWord w = true) : w ∈ q_tbl := q_in_m (List.mem_append_right _ (List.mem_append_right _ (List.mem_append_right _ (List.mem_append_right _ (List.mem_append_left _ (List.mem_of_getElem? h)))))) g
theorem q_in_t6 {i : Nat} {w : Cond} (h : tables_1_6[i]? = some w) (g : goodWord w = true) : w ∈ q_tbl := q_in_m (List.mem_append_right _ (List.mem_append_right _ (List.mem_append_right _ (List.mem_append_right _ (List.mem_append_right _ (List.mem_append_left _ (List.mem_of_getElem? h))))))) g
theorem q_in_t7 {i : Nat} {w : Cond} (h : tables_1_7[i]? = some w) (g : goodWord w = true) : w ∈ q_tbl := q_in_m (List.mem_append_right _ (List.mem_append_right _ (List.mem_append_right _ (List.mem_append_right _ (List.mem_append_right _ (List.mem_append_right _ (List.mem_append_left _ (List.mem_of_getElem? h)))))))) g
theorem q_in_t8 {i : Nat} {w : Cond} (h : tables_1_8[i]? = some w) (g : goodWord w = true) : w ∈ q_tbl := q_in_m (List.mem_append_right _ (List.mem_append_right _ (List.mem_append_right _ (List.mem_append_right _ (List.mem_append_right _ (List.mem_append_right _ (List.mem_append_right _ (List.mem_append_left _ (List.mem_of_getElem? h))))))))) g
theorem q_in_t9 {i : Nat} {w : Cond} (h : tables_1_9[i]? = some w) (g : goodWord w = true) : w ∈ q_tbl := q_in_m (List.mem_append_right _ (List.mem_append_right _ (List.mem_append_right _ (List.mem_append_right _ (List.mem_append_right _ (List.mem_append_right _ (List.mem_append_right _ (List.mem_append_right _ (List.mem_of_getElem? h))))))))) g
theorem q_in_p {i : Nat} {w : Cond} (h : (k2_sels lw_privs)[i]? = some w) (g : goodWord w = true) : w ∈ q_tbl := List.mem_append_right _ <| List.mem_filter.mpr ⟨List.mem_append_left _ (List.mem_of_getElem? h), g⟩
theorem q_in_x {i : Nat} {w : Cond} (h : q_extra[i]? = some w) : w ∈ q_tbl := List.mem_append_left _ (List.mem_of_getElem? h)
theorem q_KX.warm {X : XW} {s U : State} (hW : s.WarmedH U.vm) (h : q_KX X s) : q_KX X U := ⟨va_K.moved hW.alike h.1, fun r hr => va_Nw.warmM hW (h.2.1 r hr), fun r hr => vk_R.warm hW (h.2.2 r hr)⟩
theorem q_SW.kept {X : XW} {s U : State} {H H1 : Heap} (hvm : s.vm.Alike U.vm) (h : q_SW X s H) (hq : ∀ a : Nat, a < H.size → ¬ q_reg X a → H1[a]? = H[a]?) : q_SW X U H1 := ⟨(h.1.moved hvm).kept hq, (h.2.1.moved hvm).kept hq, (h.2.2.moved hvm).kept hq⟩
/-- what a call site says of the tables: an instance method of the class C itself -/
def q_okV (own : String) (index : Nat) (C : String) (y : MethodName) (bytes : ByteArray) (mL : Nat) (ret : Option FieldType) (n : Nat) : Prop :=
  Cond.methodLink own index y ∈ q_tbl ∧ Cond.instanceMethod y ∈ q_tbl ∧ Cond.selects C y y ∈ q_tbl ∧ Cond.initialized C ∈ q_tbl ∧ Cond.code y bytes mL ret ∈ q_tbl ∧ (y.cls = C ∧ y.cls ≠ "java/lang/invoke/MethodHandle" ∧ y.cls ≠ "java/lang/invoke/VarHandle" ∧ (parseMethodDescriptor y.desc).map (fun d => d.parameters.length) = some n)
/-- a static method -/
def q_okS (own : String) (index : Nat) (y : MethodName) (bytes : ByteArray) (mL : Nat) (ret : Option FieldType) (n : Nat) : Prop :=
  Cond.methodLink own index y ∈ q_tbl ∧ Cond.static y ∈ q_tbl ∧ Cond.initialized y.cls ∈ q_tbl ∧ Cond.code y bytes mL ret ∈ q_tbl ∧ (y.cls ≠ "java/lang/invoke/MethodHandle" ∧ y.cls ≠ "java/lang/invoke/VarHandle" ∧ (parseMethodDescriptor y.desc).map (fun d => d.parameters.length) = some n)
/-- an inherited method y, called by the name x, of a receiver of class C -/
def q_okU (own : String) (index : Nat) (C owner : String) (x y : MethodName) (bytes : ByteArray) (mL : Nat) (ret : Option FieldType) (n : Nat) : Prop :=
  Cond.methodLink own index x ∈ q_tbl ∧ Cond.sameMethod x.cls owner x.name x.desc ∈ q_tbl ∧ Cond.selects C x y ∈ q_tbl ∧ Cond.instanceMethod y ∈ q_tbl ∧ Cond.initialized y.cls ∈ q_tbl ∧ Cond.code y bytes mL ret ∈ q_tbl ∧ (owner ≠ "java/lang/invoke/MethodHandle" ∧ owner ≠ "java/lang/invoke/VarHandle" ∧ (parseMethodDescriptor x.desc).map (fun d => d.parameters.length) = some n) ∧ (x.name = y.name ∧ x.desc = y.desc ∧ owner = y.cls)
abbrev q_Qi (X : XW) (n : Nat) (σ : ST) (post : Int32 → ST → Prop) : Array Value → State → Outcome → State → Prop := va_Qi (S := ST) post (fun σ' t => q_Post X n σ σ' t.heap) (q_reg X)
abbrev q_Ql (X : XW) (n : Nat) (σ : ST) (post : Int64 → ST → Prop) : Array Value → State → Outcome → State → Prop := va_Ql (S := ST) post (fun σ' t => q_Post X n σ σ' t.heap) (q_reg X)
abbrev q_Qv (X : XW) (n : Nat) (σ : ST) (post : ST → Prop) : Array Value → State → Outcome → State → Prop := va_Qv (S := ST) post (fun σ' t => q_Post X n σ σ' t.heap) (q_reg X)
abbrev q_Qq (X : XW) (n : Nat) (σ : ST) (post : Option Nat → ST → Prop) : Array Value → State → Outcome → State → Prop := va_Qq (S := ST) post (fun σ' t => q_Post X n σ σ' t.heap) (q_reg X)
abbrev q_P (X : XW) (σ : ST) (av : List Value) : Array Value → State → Prop := va_Pc av (q_Pre X σ)
theorem q_blind {X : XW} {σ : ST} {av : List Value} : FrameBlind (q_P X σ av) := by
  rintro a U g mk ⟨h1, hT, hR, hB, hTT, hK, hW⟩
  exact ⟨h1, hT, hR, hB, hTT, ⟨va_K.moved (u := U) (U := U.calling g mk a) (Vm.Alike.refl U.vm) hK.1, fun r hr => va_Nw.same (u := U) (U := U.calling g mk a) rfl rfl (hK.2.1 r hr), fun r hr => vk_R.same (u := U) (U := U.calling g mk a) rfl (hK.2.2 r hr)⟩, q_SW.kept (s := U) (U := U.calling g mk a) (Vm.Alike.refl U.vm) hW (fun _ _ _ => rfl)⟩
/-- a method's proof begins -/
theorem q_met {l : Launch} {y : MethodName} {cc : ByteArray} {mL : Nat} {ret : Option FieldType} {rm : Room} {av : List Value} {X : XW} {σ : ST} {own : String} {Qc : Array Value → State → Outcome → State → Prop} (n : Nat) (hy : plainFor y = true) (ho : y.cls = own) (hlen : (lg_sl av).length ≤ mL)
    (body : ∀ (p : Program) (e : Env) (s : State) (m : MethodId) (below : List Frame) (meth : Method) (c : Code), q_E p c cc s m av.toArray own X → c.maxLocals = mL → meth.sig.returnType = ret → meth.locks = false → q_I X n σ s.heap [] σ s.heap → ∀ ls : Array Slot, lv_has ls mL (lv_args 0 av) → W p l e rm s m av.toArray below meth c s.heap [] 0 0 (MQ below Qc av.toArray s 0 0 (q_reg X)) (F0 m 0 ls [])) :
    Met l y (q_ws y cc mL ret) rm (q_P X σ av) Qc 0 0 (q_reg X) := by
  refine MetFree.of_bodySF (code := cc) (maxLocals := mL) (ret := ret) hy ?_ ?_
  · intro args s m h hn
    obtain ⟨meth, c, h1, h2, h3, h4, h5, h6, -, -⟩ := Cond.code_spec hn (atoms_spec (ws := q_ws y cc mL ret) h _ List.mem_cons_self)
    exact ⟨meth, c, h1, h2, h3, h4, h5, h6⟩
  intro p e s m args below meth c s₁ B hml hv _
  obtain ⟨rfl, hT, hR, hB, hTT, hK, hW⟩ := hv
  have hh0 : s₁.heap = s.heap := by rw [B.state]; rfl
  suffices hW9 : W p l e rm s m av.toArray below meth c s.heap [] 0 0 (MQ below Qc av.toArray s 0 0 (q_reg X)) (entryFrame m av.toArray mL) by
    obtain ⟨t, a1, o, b1, b2, b3⟩ := hW9 s₁ hh0 (Stand.of_body B)
    exact ⟨t, o, a1, b1, b2, ⟨b3.1, b3.2⟩⟩
  have hts := atoms_spec (ws := q_ws y cc mL ret) B.pre
  have hown : s.vm.findClass y.cls = some m.cls := findClass_of_methodNamed B.named
  rw [ho] at hown
  have hl := lv_entry av hlen
  rw [lg_entry_eq]
  generalize (lg_sl av ++ List.replicate (mL - (lg_sl av).length) Slot.unset).toArray = ls at hl ⊢
  exact body p e s m below meth c ⟨B.exec, B.bytes, hown, fun w hw => hts w (List.mem_cons_of_mem _ hw), hK, hW⟩ hml B.returns B.notSynchronized ⟨hT, hR, hB, hTT, va_S.rf, q_K.rf⟩ ls hl
theorem q_metQ {l : Launch} {y : MethodName} {cc : ByteArray} {mL : Nat} {ret : Option FieldType} {rm : Room} {av : List Value} {X : XW} {σ : ST} {own : String} {Qc : Array Value → State → Outcome → State → Prop} (n : Nat) (hy : plainFor y = true) (ho : y.cls = own) (hlen : (lg_sl av).length ≤ mL)
    (body : ∀ (QQ : Array Value → State → Outcome → State → Prop), QQ = Qc → ∀ (p : Program) (e : Env) (s : State) (m : MethodId) (below : List Frame) (meth : Method) (c : Code), q_E p c cc s m av.toArray own X → c.maxLocals = mL → meth.sig.returnType = ret → meth.locks = false → q_I X n σ s.heap [] σ s.heap → ∀ ls : Array Slot, lv_has ls mL (lv_args 0 av) → W p l e rm s m av.toArray below meth c s.heap [] 0 0 (MQ below QQ av.toArray s 0 0 (q_reg X)) (F0 m 0 ls [])) :
    Met l y (q_ws y cc mL ret) rm (q_P X σ av) Qc 0 0 (q_reg X) :=
  q_met n hy ho hlen (body Qc rfl)
section QC
variable {p : Program} {l : Launch} {e : Env} {R : Room} {s : State} {m : MethodId} {args : Array Value} {below : List Frame} {meth : Method} {c : Code} {H : Heap} {locs : List Loc} {cells slots : Nat} {Q : State → Prop} {cc : ByteArray} {own : String} {X : XW} {n n' : Nat} {σ0 σ : ST} {H0 : Heap} {pc : Nat} {ls : Array Slot} {rest st : List Value} {a : Array Value}
theorem q_I.S (hI : q_I X n σ0 H0 locs σ H) : va_S (q_reg X) H0 H locs := hI.2.2.2.2.1
theorem q_I.K (hI : q_I X n σ0 H0 locs σ H) : q_K n X σ0 σ := hI.2.2.2.2.2
theorem q_I.post (hI : q_I X n σ0 H0 locs σ H) : q_Post X n σ0 σ H := ⟨hI.2.1, hI.2.2.1, hI.2.2.2.1, hI.2.2.2.2.2⟩
/-- returns -/
theorem q_reti (E : q_E p c cc s m args own X) (hr : meth.sig.returnType = some .int) (hlk : meth.locks = false) (hI : q_I X n σ0 s.heap locs σ H) {post : Int32 → ST → Prop} {v : Int32} (hp : post v σ) (hdg : decode cc pc = .ok (.ireturn, 1)) : W p l e R s m args below meth c H locs cells slots (MQ below (q_Qi X n σ0 post) args s cells slots (q_reg X)) (F0 m pc ls [.int v]) :=
  W.iret E.1 E.2.1 hr (fun t ht _ => ⟨⟨v, σ, rfl, hp, by show q_Post X n σ0 σ t.heap; rw [ht]; exact hI.post⟩, hI.S.F ht⟩) hI.S.2.2 hdg hlk
theorem q_retz (E : q_E p c cc s m args own X) (hr : meth.sig.returnType = some .boolean) (hlk : meth.locks = false) (hI : q_I X n σ0 s.heap locs σ H) {post : Int32 → ST → Prop} {v : Int32} (h01 : 0 ≤ v.toInt ∧ v.toInt ≤ 1) (hp : post v σ) (hdg : decode cc pc = .ok (.ireturn, 1)) : W p l e R s m args below meth c H locs cells slots (MQ below (q_Qi X n σ0 post) args s cells slots (q_reg X)) (F0 m pc ls [.int v]) :=
  W.zret E.1 E.2.1 hr (q_nar0 (Or.inr ⟨rfl, h01⟩)).1 (fun t ht _ => ⟨⟨v, σ, rfl, hp, by show q_Post X n σ0 σ t.heap; rw [ht]; exact hI.post⟩, hI.S.F ht⟩) hI.S.2.2 hdg hlk
theorem q_retl (E : q_E p c cc s m args own X) (hr : meth.sig.returnType = some .long) (hlk : meth.locks = false) (hI : q_I X n σ0 s.heap locs σ H) {post : Int64 → ST → Prop} {v : Int64} (hp : post v σ) (hdg : decode cc pc = .ok (.lreturn, 1)) : W p l e R s m args below meth c H locs cells slots (MQ below (q_Ql X n σ0 post) args s cells slots (q_reg X)) (F0 m pc ls [.long v]) :=
  W.lret E.1 E.2.1 hr (fun t ht _ => ⟨⟨v, σ, rfl, hp, by show q_Post X n σ0 σ t.heap; rw [ht]; exact hI.post⟩, hI.S.F ht⟩) hI.S.2.2 hdg hlk
theorem q_retv (E : q_E p c cc s m args own X) (hr : meth.sig.returnType = none) (hlk : meth.locks = false) (hI : q_I X n σ0 s.heap locs σ H) {post : ST → Prop} (hp : post σ) (hdg : decode cc pc = .ok (.return_, 1)) : W p l e R s m args below meth c H locs cells slots (MQ below (q_Qv X n σ0 post) args s cells slots (q_reg X)) (F0 m pc ls []) :=
  W.vret E.1 E.2.1 hr (fun t ht _ => ⟨⟨σ, rfl, hp, by show q_Post X n σ0 σ t.heap; rw [ht]; exact hI.post⟩, hI.S.F ht⟩) hI.S.2.2 hdg hlk
theorem q_retq (E : q_E p c cc s m args own X) {nm : String} (hr : meth.sig.returnType = some (.object nm)) (hlk : meth.locks = false) (hI : q_I X n σ0 s.heap locs σ H) {post : Option Nat → ST → Prop} {r : Option Nat} {v : Value} (hv : v = va_rf r) (hp : post r σ) (hdg : decode cc pc = .ok (.areturn, 1)) : W p l e R s m args below meth c H locs cells slots (MQ below (q_Qq X n σ0 post) args s cells slots (q_reg X)) (F0 m pc ls [v]) := by
  subst hv
  exact W.aret E.1 E.2.1 hr (Or.inl ⟨_, rfl⟩) (va_rf_or r) (fun t ht _ => ⟨⟨r, σ, rfl, hp, by show q_Post X n σ0 σ t.heap; rw [ht]; exact hI.post⟩, hI.S.F ht⟩) hI.S.2.2 hdg hlk
/-- calls -/
theorem q_fix {nL : Nat} (E : q_E p c cc s m args own X) (hml : c.maxLocals = nL) : CallFix p m c cc nL s args q_tbl own := ⟨E.1, E.2.1, hml, E.2.2.1, E.2.2.2.1⟩
theorem q_preS (E : q_E p c cc s m args own X) (hI : q_I X n σ0 s.heap locs σ H) (As : List Value) : PreS s H (q_P X σ As) As :=
  ⟨q_blind, fun U hU hW => ⟨rfl, hI.1, by rw [hU]; exact hI.2.1, hI.2.2.1, hI.2.2.2.1, q_KX.warm hW E.2.2.2.2.1, by rw [hU]; exact q_SW.kept hW.alike E.2.2.2.2.2 hI.S.2.1⟩⟩
theorem q_preV (E : q_E p c cc s m args own X) (hI : q_I X n σ0 s.heap locs σ H) (As : List Value) {b k ci N : Nat} {C : String} {T : u_T} (hb : q_kd X b = k) (hk : k = ci + 1 ∧ k < 20) (hc : vwCl[ci]? = some (C, T, N)) : PreV s H C b (q_P X σ (.ref b :: As)) As := by
  refine ⟨q_blind, ?_, (q_preS E hI (.ref b :: As)).2⟩
  obtain ⟨cell, q1, q2, q3, q4⟩ := q_obj hI hb hk hc
  obtain ⟨hS, hfc, -⟩ := E.2.2.2.2.1.1.1 ci _ hc
  exact ⟨cell, q1, by rw [q3]; rfl, by rw [q2]; exact hfc⟩
theorem q_runV (E : q_E p c cc s m args own X) (hml : c.maxLocals = ls.size) (hI : q_I X n σ0 s.heap locs σ H) {As : List Value} {b k ci N index mL na f w : Nat} {C : String} {T : u_T} {y : MethodName} {bytes : ByteArray} {ret : Option FieldType} {Qc : Array Value → State → Outcome → State → Prop}
    (hM : Met l y (q_ws y bytes mL ret) (q_rm f w) (q_P X σ (.ref b :: As)) Qc 0 0 (q_reg X)) (ok : q_okV own index C y bytes mL ret na) (hb : q_kd X b = k) (hk : k = ci + 1 ∧ k < 20) (hc : vwCl[ci]? = some (C, T, N)) (hn : As.length = na) (hR : f + 1 ≤ R.frames ∧ 8 + (mL + 11) + w ≤ R.locals) (hcs : cells ≤ R.cells ∧ slots ≤ R.slots)
    (hst : st = As.reverse ++ .ref b :: rest) (hW : (rest.map fun v => v.category).sum ≤ 8) (hdg : decode cc pc = .ok (.invokevirtual index, 3)) :
    va_Run p l e R s m args below meth c H locs cells slots 0 0 (F0 m pc ls st) rest (Qc (Value.ref b :: As).toArray) (q_reg X) := by
  obtain ⟨o1, o2, o3, o4, o5, o6⟩ := ok
  refine va_runV (nL := ls.size) (q_fix E hml) hM (cwV na E.2.2.2.1 (q_goodIn fun w hw => ?_) rfl rfl rfl o6 hR) (q_preV E hI As hb hk hc) rfl hn rfl hst (lv_room hW) hdg hcs
  unfold wsV at hw
  rcases List.mem_append.mp hw with h | h
  · simp only [List.mem_cons, List.not_mem_nil, or_false] at h
    rcases h with rfl | rfl | rfl | rfl
    · exact o1
    · exact o2
    · exact o3
    · exact o4
  · rcases List.mem_cons.mp h with rfl | h
    · exact o5
    · exact h
theorem q_runS (E : q_E p c cc s m args own X) (hml : c.maxLocals = ls.size) (hI : q_I X n σ0 s.heap locs σ H) {As : List Value} {index mL na f w : Nat} {y : MethodName} {bytes : ByteArray} {ret : Option FieldType} {Qc : Array Value → State → Outcome → State → Prop}
    (hM : Met l y (q_ws y bytes mL ret) (q_rm f w) (q_P X σ As) Qc 0 0 (q_reg X)) (ok : q_okS own index y bytes mL ret na) (hn : As.length = na) (hR : f + 1 ≤ R.frames ∧ 8 + (mL + 11) + w ≤ R.locals) (hcs : cells ≤ R.cells ∧ slots ≤ R.slots)
    (hst : st = As.reverse ++ rest) (hW : (rest.map fun v => v.category).sum ≤ 8) (hdg : decode cc pc = .ok (.invokestatic index, 3)) :
    va_Run p l e R s m args below meth c H locs cells slots 0 0 (F0 m pc ls st) rest (Qc As.toArray) (q_reg X) := by
  obtain ⟨o1, o2, o3, o4, o5⟩ := ok
  refine va_runS (nL := ls.size) (q_fix E hml) hM (va_cwS na E.2.2.2.1 (q_goodIn fun w hw => ?_) rfl rfl rfl o5 hR) (q_preS E hI As) rfl hn rfl hst (lv_room hW) hdg hcs
  unfold va_wsS at hw
  rcases List.mem_append.mp hw with h | h
  · simp only [List.mem_cons, List.not_mem_nil, or_false] at h
    rcases h with rfl | rfl | rfl
    · exact o1
    · exact o2
    · exact o3
  · rcases List.mem_cons.mp h with rfl | h
    · exact o4
    · exact h
theorem q_ci {n2 : Nat} {post : Int32 → ST → Prop} (hr : va_Run p l e R s m args below meth c H locs cells slots 0 0 (F0 m pc ls st) rest (q_Qi X n2 σ post a) (q_reg X)) (hI : q_I X n σ0 H0 locs σ H) (hle : n ≤ n2)
    (kk : ∀ (r : Int32) (σ1 : ST) (H1 : Heap) (locs1 : List Loc), post r σ1 → q_K n2 X σ σ1 → q_I X n σ0 H0 locs1 σ1 H1 → W p l e R s m args below meth c H1 locs1 cells slots Q (F0 m (pc + 3) ls (.int r :: rest))) : W p l e R s m args below meth c H locs cells slots Q (F0 m pc ls st) := by
  refine va_calli hr hI.S (fun q _ h => h) (fun q h => h) (fun r u t H1 locs1 ht hal hp hB hz hk hS => ?_)
  obtain ⟨b1, b2, b3, b4⟩ := hB
  rw [ht] at b1
  exact kk r u H1 locs1 hp b4 ⟨hI.1, b1, b2, b3, hS, hI.K.tr (b4.le hle)⟩
theorem q_cl_ {n2 : Nat} {post : Int64 → ST → Prop} (hr : va_Run p l e R s m args below meth c H locs cells slots 0 0 (F0 m pc ls st) rest (q_Ql X n2 σ post a) (q_reg X)) (hI : q_I X n σ0 H0 locs σ H) (hle : n ≤ n2)
    (kk : ∀ (r : Int64) (σ1 : ST) (H1 : Heap) (locs1 : List Loc), post r σ1 → q_K n2 X σ σ1 → q_I X n σ0 H0 locs1 σ1 H1 → W p l e R s m args below meth c H1 locs1 cells slots Q (F0 m (pc + 3) ls (.long r :: rest))) : W p l e R s m args below meth c H locs cells slots Q (F0 m pc ls st) := by
  refine va_calll hr hI.S (fun q _ h => h) (fun q h => h) (fun r u t H1 locs1 ht hal hp hB hz hk hS => ?_)
  obtain ⟨b1, b2, b3, b4⟩ := hB
  rw [ht] at b1
  exact kk r u H1 locs1 hp b4 ⟨hI.1, b1, b2, b3, hS, hI.K.tr (b4.le hle)⟩
theorem q_cv {n2 : Nat} {post : ST → Prop} (hr : va_Run p l e R s m args below meth c H locs cells slots 0 0 (F0 m pc ls st) rest (q_Qv X n2 σ post a) (q_reg X)) (hI : q_I X n σ0 H0 locs σ H) (hle : n ≤ n2)
    (kk : ∀ (σ1 : ST) (H1 : Heap) (locs1 : List Loc), post σ1 → q_K n2 X σ σ1 → q_I X n σ0 H0 locs1 σ1 H1 → W p l e R s m args below meth c H1 locs1 cells slots Q (F0 m (pc + 3) ls rest)) : W p l e R s m args below meth c H locs cells slots Q (F0 m pc ls st) := by
  refine va_callv hr hI.S (fun q _ h => h) (fun q h => h) (fun u t H1 locs1 ht hal hp hB hz hk hS => ?_)
  obtain ⟨b1, b2, b3, b4⟩ := hB
  rw [ht] at b1
  exact kk u H1 locs1 hp b4 ⟨hI.1, b1, b2, b3, hS, hI.K.tr (b4.le hle)⟩
theorem q_cq {n2 : Nat} {post : Option Nat → ST → Prop} (hr : va_Run p l e R s m args below meth c H locs cells slots 0 0 (F0 m pc ls st) rest (q_Qq X n2 σ post a) (q_reg X)) (hI : q_I X n σ0 H0 locs σ H) (hle : n ≤ n2)
    (kk : ∀ (r : Option Nat) (σ1 : ST) (H1 : Heap) (locs1 : List Loc), post r σ1 → q_K n2 X σ σ1 → q_I X n σ0 H0 locs1 σ1 H1 → W p l e R s m args below meth c H1 locs1 cells slots Q (F0 m (pc + 3) ls (va_rf r :: rest))) : W p l e R s m args below meth c H locs cells slots Q (F0 m pc ls st) := by
  refine va_callq hr hI.S (fun q _ h => h) (fun q h => h) (fun r u t H1 locs1 ht hal hp hB hz hk hS => ?_)
  obtain ⟨b1, b2, b3, b4⟩ := hB
  rw [ht] at b1
  exact kk r u H1 locs1 hp b4 ⟨hI.1, b1, b2, b3, hS, hI.K.tr (b4.le hle)⟩
end QC
end
