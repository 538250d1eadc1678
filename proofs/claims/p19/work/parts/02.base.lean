/-! FROM 02.base.lean.txt -/
section
/-! THE WORLD: one typed heap. X says what lies where (kinds, constant references, lengths: nothing of it changes once it is made), the state what the cells hold. -/
abbrev XW : Type := (va_G × (Nat → ClassId)) × ((Nat → Nat) × ((Nat → Nat → Nat) × ((Nat → Nat) × ((Nat → Nat) × (Nat → Nat)))))
abbrev ST : Type := (Nat → Nat → Int32) × ((Nat → Nat → Int64) × (Nat → Nat))
def q_gD (X : XW) : va_G := X.1.1
def q_gA (X : XW) (t : Nat) : ClassId := X.1.2 t
def q_kd (X : XW) : Nat → Nat := X.2.1
def q_rf (X : XW) : Nat → Nat → Nat := X.2.2.1
def q_ln (X : XW) : Nat → Nat := X.2.2.2.1
/-- where the String constants lie, and their bytes -/
def q_sk (X : XW) : Nat → Nat := X.2.2.2.2.1
def q_sv (X : XW) : Nat → Nat := X.2.2.2.2.2
/-- the type of field f of an object of kind k: 0 int or boolean, 1 long, 2 a reference that stays, 3 the text of a reader -/
def q_ft (k f : Nat) : Nat := match k with
  | 1 => match f with | 0 => 2 | 1 => 2 | 2 => 2 | 3 => 2 | 8 => 2 | 10 => 2 | _ => 0
  | 2 => 2
  | 3 => match f with | 0 => 0 | 1 => 0 | _ => 2
  | 4 => match f with | 0 => 3 | 8 => 2 | 9 => 2 | _ => 0
  | 5 => 2
  | 6 => match f with | 5 => 2 | 6 => 2 | 7 => 2 | _ => 0
  | 7 => match f with | 7 => 2 | _ => 0
  | 8 => match f with | 0 => 0 | 1 => 0 | 2 => 0 | _ => 2
  | 9 => match f with | 0 => 3 | 8 => 2 | 11 => 2 | _ => 0
  | 10 => match f with | 2 => 2 | _ => 0
  | 11 => match f with | 1 => 1 | 2 => 1 | 3 => 2 | 4 => 2 | 8 => 2 | 9 => 2 | 10 => 2 | 12 => 2 | 13 => 2 | 14 => 2 | 15 => 2 | _ => 0
  | 12 => match f with | 2 => 1 | 3 => 1 | 4 => 2 | 5 => 2 | 6 => 2 | 7 => 2 | 19 => 1 | 20 => 2 | 21 => 2 | 22 => 2 | 23 => 2 | 28 => 2 | 29 => 2 | 30 => 1 | 31 => 1 | 32 => 2 | 36 => 2 | _ => 0
  | _ => 0
/-- the kind of what a constant reference leads to; of arrays of references: place by place -/
def q_rk (k f : Nat) : Nat := match k with
  | 1 => match f with | 0 => 6 | 1 => 2 | 2 => 3 | 3 => 8 | 8 => 5 | 10 => 5 | _ => 0
  | 2 => match f with | 0 => 5 | 1 => 5 | 2 => 5 | 3 => 5 | 4 => 5 | 5 => 5 | 6 => 5 | _ => 0
  | 3 => match f with | 2 => 5 | 3 => 5 | 4 => 5 | 5 => 5 | _ => 0
  | 4 => match f with | 8 => 8 | 9 => 5 | _ => 0
  | 5 => match f with | 0 => 20 | _ => 0
  | 6 => match f with | 5 => 5 | 6 => 5 | 7 => 5 | _ => 0
  | 7 => match f with | 7 => 5 | _ => 0
  | 8 => match f with | 3 => 5 | 4 => 5 | 5 => 5 | 6 => 5 | 7 => 5 | _ => 0
  | 9 => match f with | 8 => 1 | 11 => 5 | _ => 0
  | 10 => match f with | 2 => 21 | _ => 0
  | 11 => match f with | 3 => 23 | 4 => 22 | 8 => 1 | 9 => 1 | 10 => 24 | 12 => 9 | 13 => 4 | 14 => 7 | 15 => 7 | _ => 0
  | 12 => match f with | 4 => 30 | 5 => 31 | 6 => 32 | 7 => 33 | 20 => 34 | 21 => 35 | 22 => 36 | 23 => 37 | 28 => 39 | 29 => 40 | 32 => 38 | 36 => 41 | _ => 0
  | 23 => match f with | 0 => 10 | 1 => 10 | 2 => 10 | 3 => 10 | _ => 0
  | 24 => match f with | 0 => 1 | 1 => 1 | 2 => 1 | _ => 0
  | _ => 0
/-- what an array of kind k is of: 0 byte, 1 int, 2 long, 3 trays, 4 games -/
def q_et (k : Nat) : Nat := match k with
  | 20 => 1 | 21 => 2 | 22 => 0 | 23 => 3 | 24 => 4 | 30 => 1 | 31 => 1 | 32 => 2 | 33 => 0 | 34 => 1 | 35 => 1 | 36 => 1 | 37 => 2 | 38 => 1 | 39 => 1 | 40 => 1 | 41 => 1 | _ => 1
/-- an array kind's one length (0: lengths differ) -/
def q_ll (k : Nat) : Nat := match k with
  | 21 => 60 | 23 => 4 | 24 => 3 | 30 => 4 | 31 => 4 | 32 => 240 | 33 => 900 | 34 => 4650 | 35 => 654 | 36 => 60 | 37 => 30 | 38 => 10 | 39 => 10 | 40 => 4 | 41 => 5 | _ => 0
/-- what may stand in an int cell -/
def q_full : Int × Int := (-2147483648, 2147483647)
def q_bn (k f : Nat) : Int × Int := match k with
  | 1 => match f with | 7 => (0, 1) | _ => q_full
  | 4 => match f with | 2 => (0, 2147483647) | 3 => (0, 2147483647) | _ => q_full
  | 6 => match f with | 0 => (-2147483648, 10) | 3 => (-2147483648, 4) | _ => q_full
  | 7 => match f with | 5 => (0, 1) | _ => q_full
  | 8 => match f with | 0 => (0, 1) | _ => q_full
  | 9 => match f with | 2 => (0, 2147483647) | 3 => (0, 2147483647) | 9 => (0, 1) | 10 => (0, 1) | _ => q_full
  | 10 => match f with | 0 => (0, 3) | 1 => (-1, 60) | _ => q_full
  | 11 => match f with | 5 => (0, 900) | 11 => (0, 3) | 16 => (0, 1) | _ => q_full
  | 12 => match f with | 8 => (0, 900) | 24 => (0, 3) | 25 => (0, 1) | 26 => (0, 1) | 37 => (0, 1) | 38 => (0, 1) | _ => q_full
  | 30 => (0, 3)
  | 31 => (-1, 60)
  | _ => q_full
/-- how well a cell is kept: 1 the trays' forms, the tape's length, the marks' number; 2 the model's tables, names and what was played; 3 what it has read of a text; 9 all others -/
def q_cl (k f : Nat) : Nat := match k with
  | 10 => match f with | 0 => 1 | 1 => 1 | _ => 9
  | 11 => match f with | 5 => 1 | 11 => 1 | _ => 9
  | 12 => match f with | 8 => 1 | 24 => 1 | 9 => 3 | 12 => 3 | 13 => 3 | 14 => 3 | 15 => 3 | 16 => 3 | 17 => 3 | 18 => 3 | 27 => 3 | 25 => 3 | 26 => 3 | _ => 9
  | 30 => 1
  | 31 => 1
  | 34 => 2
  | _ => 9
def q_fvk (X : XW) (σ : ST) (k a f : Nat) : Value := match q_ft k f with
  | 0 => .int (σ.1 a f)
  | 1 => .long (σ.2.1 a f)
  | 2 => .ref (q_rf X a f)
  | _ => .ref (σ.2.2 a)
def q_av (X : XW) (σ : ST) (k a j : Nat) : Value := match q_et k with
  | 0 => .int (σ.1 a j)
  | 1 => .int (σ.1 a j)
  | 2 => .long (σ.2.1 a j)
  | _ => .ref (q_rf X a j)
def q_cf (X : XW) (σ : ST) (a : Nat) (H : Heap) : Prop :=
  (q_kd X a < 20 → ∃ r : vw_C, vwCl[q_kd X a - 1]? = some r ∧ t_OB a ((q_gD X).1 (q_kd X a - 1)) r.2.2 ((q_gD X).2 (q_kd X a - 1)) H (q_fvk X σ (q_kd X a) a)) ∧
  (20 ≤ q_kd X a → H[a]? = some (arrV (q_gA X (q_et (q_kd X a))) (q_ln X a) (q_av X σ (q_kd X a) a)))
def q_R (X : XW) (σ : ST) (H : Heap) : Prop := ∀ a, q_kd X a ≠ 0 → q_cf X σ a H
def q_in (b : Int × Int) (v : Int32) : Prop := b.1 ≤ v.toInt ∧ v.toInt ≤ b.2
def q_B (X : XW) (σ : ST) : Prop := ∀ a f, q_in (q_bn (q_kd X a) f) (σ.1 a f)
def q_TT (X : XW) (σ : ST) : Prop := ∀ a, q_kd X a = 4 ∨ q_kd X a = 9 → q_kd X (σ.2.2 a) = 22
def q_T (X : XW) : Prop := (∀ a f, q_rk (q_kd X a) f ≠ 0 → q_kd X (q_rf X a f) = q_rk (q_kd X a) f) ∧ (∀ a, q_ll (q_kd X a) ≠ 0 → q_ln X a = q_ll (q_kd X a)) ∧ (∀ a, q_ln X a < 1000000) ∧ ∀ a, q_kd X a = 11 → q_ln X (q_rf X a 4) = 900
def q_K (n : Nat) (X : XW) (σ σ' : ST) : Prop := ∀ a f, q_cl (q_kd X a) f ≤ n → σ'.1 a f = σ.1 a f
def q_reg (X : XW) : Nat → Prop := fun a => q_kd X a ≠ 0
def q_I (X : XW) (n : Nat) (σ0 : ST) (H0 : Heap) (locs : List Loc) (σ : ST) (H : Heap) : Prop := q_T X ∧ q_R X σ H ∧ q_B X σ ∧ q_TT X σ ∧ va_S (q_reg X) H0 H locs ∧ q_K n X σ0 σ
def q_tys (X : XW) : List (ClassId × FieldType) := [(q_gA X 0, .byte), (q_gA X 1, .int), (q_gA X 2, .long), (q_gA X 3, .object "CheatHeap$Tray"), (q_gA X 4, .object "CheatHeap$Game")]
/-! String constants, links of nest mates -/
def q_slen : List Nat := [5, 4, 3, 2, 4, 4, 4, 6, 105, 4, 6, 4, 2, 3, 4, 4, 4, 4, 5, 4, 5, 3]
def q_sbyt : List (List Int32) := [[107, 105, 110, 100, 115], [101, 97, 99, 104], [108, 97, 119], [117, 112], [100, 111, 119, 110], [115, 97, 109, 101], [109, 111, 115, 116], [112, 108, 97, 121, 101, 114], [107, 105, 110, 100, 115, 32, 101, 97, 99, 104, 32, 108, 97, 119, 32, 109, 111, 115, 116, 32, 112, 108, 97, 121, 101, 114, 32, 108, 105, 101, 115, 32, 100, 111, 117, 98, 116, 115, 32, 104, 97, 110, 100, 32, 111, 102, 32, 117, 112, 32, 100, 111, 119, 110, 32, 115, 97, 109, 101, 32, 116, 117, 114, 110, 32, 119, 104, 101, 110, 32, 99, 97, 114, 100, 115, 32, 104, 101, 97, 112, 32, 119, 111, 110, 32, 115, 104, 111, 119, 110, 32, 108, 111, 111, 112, 32, 101, 110, 100, 32, 115, 116, 111, 112, 32], [108, 105, 101, 115], [100, 111, 117, 98, 116, 115], [104, 97, 110, 100], [111, 102], [101, 110, 100], [116, 117, 114, 110], [115, 116, 111, 112], [108, 111, 111, 112], [119, 104, 101, 110], [99, 97, 114, 100, 115], [104, 101, 97, 112], [115, 104, 111, 119, 110], [119, 111, 110]]
def q_str : List (String × Nat × String × Nat) := [("CheatHeap$TableReader", 55, "kinds", 0), ("CheatHeap$TableReader", 65, "each", 1), ("CheatHeap$TableReader", 80, "law", 2), ("CheatHeap$TableReader", 110, "up", 3), ("CheatHeap$TableReader", 114, "down", 4), ("CheatHeap$TableReader", 116, "same", 5), ("CheatHeap$TableReader", 88, "most", 6), ("CheatHeap$TableReader", 93, "player", 7), ("CheatHeap$Reader", 68, "kinds each law most player lies doubts hand of up down same turn when cards heap won shown loop end stop ", 8), ("CheatHeap$TableReader", 134, "lies", 9), ("CheatHeap$TableReader", 149, "doubts", 10), ("CheatHeap$TableReader", 98, "hand", 11), ("CheatHeap$TableReader", 162, "of", 12), ("CheatHeap$RoundReader", 41, "end", 13), ("CheatHeap$RoundReader", 100, "turn", 14), ("CheatHeap$RoundReader", 102, "lies", 9), ("CheatHeap$RoundReader", 104, "doubts", 10), ("CheatHeap$RoundReader", 106, "stop", 15), ("CheatHeap$RoundReader", 108, "loop", 16), ("CheatHeap$RoundReader", 110, "when", 17), ("CheatHeap$RoundReader", 112, "cards", 18), ("CheatHeap$RoundReader", 117, "heap", 19), ("CheatHeap$RoundReader", 119, "shown", 20), ("CheatHeap$RoundReader", 121, "won", 21)]
def q_nest : List (String × Nat × MethodName × String) := [("CheatHeap", 41, ⟨"CheatHeap$Game", "<init>", "()V"⟩, "CheatHeap"), ("CheatHeap$Game", 11, ⟨"CheatHeap$Rules", "<init>", "()V"⟩, "CheatHeap"), ("CheatHeap$Game", 20, ⟨"CheatHeap$Hands", "<init>", "()V"⟩, "CheatHeap"), ("CheatHeap$Game", 27, ⟨"CheatHeap$Pile", "<init>", "()V"⟩, "CheatHeap"), ("CheatHeap$Game", 34, ⟨"CheatHeap$Script", "<init>", "()V"⟩, "CheatHeap"), ("CheatHeap", 58, ⟨"CheatHeap$TableReader", "<init>", "()V"⟩, "CheatHeap"), ("CheatHeap$TableReader", 3, ⟨"CheatHeap$Reader", "<init>", "()V"⟩, "CheatHeap"), ("CheatHeap$TableReader", 11, ⟨"CheatHeap$Game", "<init>", "()V"⟩, "CheatHeap"), ("CheatHeap", 65, ⟨"CheatHeap$RoundReader", "<init>", "()V"⟩, "CheatHeap"), ("CheatHeap$RoundReader", 3, ⟨"CheatHeap$Reader", "<init>", "()V"⟩, "CheatHeap"), ("CheatHeap$RoundReader", 11, ⟨"CheatHeap$Script", "<init>", "()V"⟩, "CheatHeap"), ("CheatHeap", 72, ⟨"CheatHeap$Run", "<init>", "()V"⟩, "CheatHeap"), ("CheatHeap", 84, ⟨"CheatHeap$Tray", "<init>", "()V"⟩, "CheatHeap"), ("CheatHeap$Game", 165, ⟨"CheatHeap", "waysToTake", "(II)J"⟩, "CheatHeap")]
def q_SR (X : XW) (U : State) : Prop := ∀ r ∈ q_str, vk_R r.1 r.2.1 r.2.2.1 (q_sk X r.2.2.2) U
def q_NW (U : State) : Prop := ∀ r ∈ q_nest, va_Nw (.methodLinkNest r.1 r.2.1 r.2.2.1 r.2.2.2) U
/-- private methods of a class above are what their own calls select -/
def q_extra : List Cond := [.selects RX4 yX3_endOfRun yX3_endOfRun, .selects RX9 yX3_endOfRun yX3_endOfRun, .selects RX4 yX3_isReserved yX3_isReserved, .selects RX9 yX3_isReserved yX3_isReserved]
def q_tbl : List Cond := q_extra ++ lw_tbl.filter goodWord
def q_KX (X : XW) (U : State) : Prop := va_K (q_gD X) vwCl (q_tys X) U ∧ q_NW U ∧ q_SR X U
def q_SW (X : XW) (U : State) (H : Heap) : Prop := vk_S 22 q_slen q_sbyt (q_sk X) (q_sv X) (q_reg X) U H ∧ va_Z "java/lang/String" "COMPACT_STRINGS" "Z" (.int 1) (q_reg X) U H ∧ va_Zq "jdk/internal/util/Preconditions" "SIOOBE_FORMATTER" "Ljava/util/function/BiFunction;" (q_reg X) U H
def q_Pre (X : XW) (σ : ST) (U : State) : Prop := q_T X ∧ q_R X σ U.heap ∧ q_B X σ ∧ q_TT X σ ∧ q_KX X U ∧ q_SW X U U.heap
def q_Post (X : XW) (n : Nat) (σ σ' : ST) (H : Heap) : Prop := q_R X σ' H ∧ q_B X σ' ∧ q_TT X σ' ∧ q_K n X σ σ'
def q_E (p : Program) (c : Code) (cc : ByteArray) (s : State) (m : MethodId) (args : Array Value) (own : String) (X : XW) : Prop :=
  p.tables.exec = Jvm.exec ∧ c.code = cc ∧ s.vm.findClass own = some m.cls ∧ (∀ w ∈ q_tbl, w.before args s = true) ∧ q_KX X s ∧ q_SW X s s.heap
def q_ws (y : MethodName) (cc : ByteArray) (mL : Nat) (ret : Option FieldType) : List Cond := Cond.code y cc mL ret :: q_tbl
def q_rm (f w : Nat) : Room := { frames := f, cells := 0, slots := 0, locals := w }
/-! the state, one cell changed -/
def q_si (σ : ST) (a f : Nat) (v : Int32) : ST := (fun b g => if b = a ∧ g = f then v else σ.1 b g, σ.2)
def q_sl (σ : ST) (a f : Nat) (v : Int64) : ST := (σ.1, (fun b g => if b = a ∧ g = f then v else σ.2.1 b g, σ.2.2))
def q_st (σ : ST) (a v : Nat) : ST := (σ.1, (σ.2.1, fun b => if b = a then v else σ.2.2 b))
theorem q_full_in (v : Int32) : q_in q_full v := ⟨by have := Int32.le_toInt v; simp [q_full]; omega, by have := Int32.toInt_lt v; simp [q_full]; omega⟩
theorem q_inU {k f : Nat} {v : Int32} (h : q_bn k f = q_full) : q_in (q_bn k f) v := by rw [h]; exact q_full_in v
theorem q_inB {k f : Nat} {v : Int32} {lo hi : Int} (h : q_bn k f = (lo, hi)) (h1 : lo ≤ v.toInt) (h2 : v.toInt ≤ hi) : q_in (q_bn k f) v := by rw [h]; exact ⟨h1, h2⟩
theorem q_rng (v : Int32) : -2147483648 ≤ v.toInt ∧ v.toInt ≤ 2147483647 := ⟨(q_full_in v).1, (q_full_in v).2⟩
theorem q_K.rf {n : Nat} {X : XW} {σ : ST} : q_K n X σ σ := fun _ _ _ => rfl
theorem q_K.tr {n : Nat} {X : XW} {σ σ' σ'' : ST} (h : q_K n X σ σ') (h2 : q_K n X σ' σ'') : q_K n X σ σ'' := fun a f q => (h2 a f q).trans (h a f q)
theorem q_K.le {n n' : Nat} {X : XW} {σ σ' : ST} (h : q_K n X σ σ') (hn : n' ≤ n) : q_K n' X σ σ' := fun a f q => h a f (Nat.le_trans q hn)
theorem q_K.si {n : Nat} {X : XW} {σ : ST} {a k f : Nat} {v : Int32} (ha : q_kd X a = k) (h : n < q_cl k f) : q_K n X σ (q_si σ a f v) := by
  intro b g q
  show (if b = a ∧ g = f then v else σ.1 b g) = _
  rw [if_neg]
  rintro ⟨rfl, rfl⟩
  rw [ha] at q
  omega
theorem q_fv_si {X : XW} {σ : ST} {k a f : Nat} {v : Int32} (hf : q_ft k f = 0) (g : Nat) : updV (q_fvk X σ k a) f (.int v) g = q_fvk X (q_si σ a f v) k a g := by
  unfold updV
  by_cases hg : g = f
  · subst hg
    rw [if_pos rfl]
    unfold q_fvk q_si
    rw [hf]
    simp
  · rw [if_neg hg]
    unfold q_fvk q_si
    simp [hg]
theorem q_fv_sl {X : XW} {σ : ST} {k a f : Nat} {v : Int64} (hf : q_ft k f = 1) (g : Nat) : updV (q_fvk X σ k a) f (.long v) g = q_fvk X (q_sl σ a f v) k a g := by
  unfold updV
  by_cases hg : g = f
  · subst hg
    rw [if_pos rfl]
    unfold q_fvk q_sl
    rw [hf]
    simp
  · rw [if_neg hg]
    unfold q_fvk q_sl
    simp [hg]
theorem q_fv_st {X : XW} {σ : ST} {k a v : Nat} (hf : ∀ g, q_ft k g = 3 ↔ g = 0) (h3 : ∀ g, q_ft k g ≤ 3) (g : Nat) : updV (q_fvk X σ k a) 0 (.ref v) g = q_fvk X (q_st σ a v) k a g := by
  unfold updV
  by_cases hg : g = 0
  · subst hg
    rw [if_pos rfl]
    unfold q_fvk q_st
    rw [(hf 0).mpr rfl]
    simp
  · rw [if_neg hg]
    have h1 : q_ft k g ≠ 3 := fun h => hg ((hf g).mp h)
    have h2 := h3 g
    unfold q_fvk q_st
    generalize q_ft k g = z at h1 h2
    match z, h1, h2 with
    | 0, _, _ => rfl
    | 1, _, _ => rfl
    | 2, _, _ => rfl
    | 3, h1, _ => exact absurd rfl h1
theorem q_cf.ne {X : XW} {σ σ' : ST} {b : Nat} {H H1 : Heap} (h : q_cf X σ b H) (e1 : ∀ g, σ'.1 b g = σ.1 b g) (e2 : ∀ g, σ'.2.1 b g = σ.2.1 b g) (e3 : σ'.2.2 b = σ.2.2 b) (hq : H1[b]? = H[b]?) : q_cf X σ' b H1 := by
  have f1 : q_fvk X σ' (q_kd X b) b = q_fvk X σ (q_kd X b) b := by
    funext g
    unfold q_fvk
    rw [e1, e2, e3]
  have f2 : q_av X σ' (q_kd X b) b = q_av X σ (q_kd X b) b := by
    funext g
    unfold q_av
    rw [e1, e2]
  refine ⟨fun hk => ?_, fun hk => ?_⟩
  · obtain ⟨r, h1, h2⟩ := h.1 hk
    refine ⟨r, h1, ?_⟩
    rw [f1]
    exact h2.kept hq
  · rw [f2, hq]
    exact h.2 hk
theorem q_R.kept {X : XW} {σ : ST} {H H1 : Heap} (h : q_R X σ H) (hq : ∀ a, q_kd X a ≠ 0 → H1[a]? = H[a]?) : q_R X σ H1 := fun a ha => (h a ha).ne (fun _ => rfl) (fun _ => rfl) rfl (hq a ha)
theorem q_R.lt {X : XW} {σ : ST} {H : Heap} (h : q_R X σ H) {a : Nat} (ha : q_kd X a ≠ 0) : a < H.size := by
  rcases Nat.lt_or_ge (q_kd X a) 20 with hk | hk
  · obtain ⟨r, -, cell, h2, -⟩ := (h a ha).1 hk
    exact (Array.getElem?_eq_some_iff.mp h2).1
  · exact (Array.getElem?_eq_some_iff.mp ((h a ha).2 hk)).1
/-- what a constant reference leads to -/
theorem q_tk {X : XW} {n : Nat} {σ0 σ : ST} {H0 H : Heap} {locs : List Loc} (hI : q_I X n σ0 H0 locs σ H) {a k f k' : Nat} (ha : q_kd X a = k) (h : q_rk k f = k') (h0 : k' ≠ 0) : q_kd X (q_rf X a f) = k' := by
  have h1 := hI.1.1 a f (by rw [ha, h]; exact h0)
  rw [h1, ha, h]
theorem q_txk {X : XW} {n : Nat} {σ0 σ : ST} {H0 H : Heap} {locs : List Loc} (hI : q_I X n σ0 H0 locs σ H) {a : Nat} (ha : q_kd X a = 4 ∨ q_kd X a = 9) : q_kd X (σ.2.2 a) = 22 := hI.2.2.2.1 a ha
theorem q_lnk {X : XW} {n : Nat} {σ0 σ : ST} {H0 H : Heap} {locs : List Loc} (hI : q_I X n σ0 H0 locs σ H) {a k v : Nat} (ha : q_kd X a = k) (h : q_ll k = v) (h0 : v ≠ 0) : q_ln X a = v := by
  have h1 := hI.1.2.1 a (by rw [ha, h]; exact h0)
  rw [h1, ha, h]
theorem q_bd {X : XW} {n : Nat} {σ0 σ : ST} {H0 H : Heap} {locs : List Loc} (hI : q_I X n σ0 H0 locs σ H) {a k f : Nat} {lo hi : Int} (ha : q_kd X a = k) (h : q_bn k f = (lo, hi)) : lo ≤ (σ.1 a f).toInt ∧ (σ.1 a f).toInt ≤ hi := by
  have h1 := hI.2.2.1 a f
  rw [ha, h] at h1
  exact h1
theorem q_ln11 {X : XW} {n : Nat} {σ0 σ : ST} {H0 H : Heap} {locs : List Loc} (hI : q_I X n σ0 H0 locs σ H) {a : Nat} (ha : q_kd X a = 11) : q_ln X (q_rf X a 4) = 900 := hI.1.2.2.2 a ha
theorem q_bdR {X : XW} {n : Nat} {σ0 σ : ST} {H0 H : Heap} {locs : List Loc} (hI : q_I X n σ0 H0 locs σ H) {a f : Nat} {lo hi : Int} (ha : q_kd X a = 4 ∨ q_kd X a = 9) (h4 : q_bn 4 f = (lo, hi)) (h9 : q_bn 9 f = (lo, hi)) : lo ≤ (σ.1 a f).toInt ∧ (σ.1 a f).toInt ≤ hi := by
  rcases ha with ha | ha
  · exact q_bd hI ha h4
  · exact q_bd hI ha h9
end
/-! FROM 03.rows.lean.txt -/
section
section QR
variable {p : Program} {l : Launch} {e : Env} {R : Room} {s : State} {m : MethodId} {args : Array Value} {below : List Frame} {meth : Method} {c : Code} {H : Heap} {locs : List Loc} {cells slots : Nat} {Q : State → Prop} {cc : ByteArray} {own : String} {X : XW} {n : Nat} {σ0 σ : ST} {H0 : Heap} {pc : Nat} {ls : Array Slot} {rest : List Value} {a k f : Nat}
theorem q_kx_ty {U : State} (hK : va_K (q_gD X) vwCl (q_tys X) U) {t : Nat} {ty : FieldType} (h : (q_tys X)[t]? = some (q_gA X t, ty)) : ArrOfT U (q_gA X t) ty := (hK.2 t _ h).1
theorem q_obj (hI : q_I X n σ0 H0 locs σ H) (ha : q_kd X a = k) {ci N : Nat} {C : String} {T : u_T} (hk : k = ci + 1 ∧ k < 20) (hc : vwCl[ci]? = some (C, T, N)) : t_OB a ((q_gD X).1 ci) N ((q_gD X).2 ci) H (q_fvk X σ k a) := by
  obtain ⟨rfl, h20⟩ := hk
  obtain ⟨r, h1, h2⟩ := (hI.2.1 a (by omega)).1 (by omega)
  rw [ha] at h1 h2
  have hr : r = (C, T, N) := Option.some.inj (h1.symm.trans hc)
  subst hr
  exact h2
theorem q_arr (hI : q_I X n σ0 H0 locs σ H) (ha : q_kd X a = k) (hk : 20 ≤ k) : H[a]? = some (arrV (q_gA X (q_et k)) (q_ln X a) (q_av X σ k a)) := by
  have h := (hI.2.1 a (by omega)).2 (by omega)
  rw [ha] at h
  exact h
/-- getfield -/
theorem q_getf (E : q_E p c cc s m args own X) (hI : q_I X n σ0 H0 locs σ H) (ha : q_kd X a = k) {ci N index : Nat} {C ref : String} {T : u_T} {v : Value} (hk : k = ci + 1 ∧ k < 20) (hc : vwCl[ci]? = some (C, T, N)) (hin : ∀ w ∈ u_ws C T N, w ∈ q_tbl) (hf : f < N)
    (hlink : Cond.fieldLink own index ref (T f).2.1 (T f).2.2.1 ∈ q_tbl) (hsame : ref = (T f).1 ∨ Cond.sameField ref (T f).1 (T f).2.1 (T f).2.2.1 ∈ q_tbl) (hv : q_fvk X σ k a f = v) (hdg : decode cc pc = .ok (.getfield index, 3))
    (kk : W p l e R s m args below meth c H locs cells slots Q (F0 m (pc + 3) ls (v :: rest))) : W p l e R s m args below meth c H locs cells slots Q (F0 m pc ls (.ref a :: rest)) := by
  obtain ⟨hx, hb, hown, hts, ⟨hK, -, -⟩, -⟩ := E
  obtain ⟨cell, q1, q2, q3, q4⟩ := q_obj hI ha hk hc
  obtain ⟨hS, hfc, kC, hkC, hkind⟩ := hK.1 ci _ hc
  obtain ⟨cf, kf, fi, fd, hi, hsl⟩ := hS f hf
  have hi' : s.fieldFound? ref (T f).2.1 (T f).2.2.1 = some (cf, kf, fi, fd) := by
    rcases hsame with h | h
    · rw [h]; exact hi
    · exact u_same (hts _ h) _ hi
  refine W.getf hx hb hown (hts _ hlink) hi' (u_facts hfc hkC (u_lays hts hin hf) hi).1 q1 (by rw [q3]; exact fun h => by cases h) (v := v) ?_ rfl rfl hdg kk
  rw [hsl, q4 f hf, hv]
/-- a cell of the world written -/
theorem q_R.up {σ' : ST} {H1 : Heap} (h : q_R X σ H) (oq : ∀ q : Nat, q ≠ a → H1[q]? = H[q]?) (h1 : q_cf X σ' a H1) (e1 : ∀ b g, b ≠ a → σ'.1 b g = σ.1 b g) (e2 : ∀ b g, b ≠ a → σ'.2.1 b g = σ.2.1 b g) (e3 : ∀ b, b ≠ a → σ'.2.2 b = σ.2.2 b) : q_R X σ' H1 := by
  intro b hb
  by_cases hba : b = a
  · subst hba; exact h1
  · exact (h b hb).ne (fun g => e1 b g hba) (fun g => e2 b g hba) (e3 b hba) (oq b hba)
theorem q_B.si {v : Int32} (h : q_B X σ) (ha : q_kd X a = k) (hv : q_in (q_bn k f) v) : q_B X (q_si σ a f v) := by
  intro b g
  show q_in _ (if b = a ∧ g = f then v else σ.1 b g)
  by_cases hq : b = a ∧ g = f
  · rw [if_pos hq]
    obtain ⟨rfl, rfl⟩ := hq
    rw [ha]
    exact hv
  · rw [if_neg hq]
    exact h b g
/-- putfield of an object, the new value as the state says -/
theorem q_putf (E : q_E p c cc s m args own X) (hI : q_I X n σ0 H0 locs σ H) (ha : q_kd X a = k) {ci N index : Nat} {C ref : String} {T : u_T} {ty0 : Nat → FieldType} {v : Value} (hk : k = ci + 1 ∧ k < 20) (hc : vwCl[ci]? = some (C, T, N)) (hin : ∀ w ∈ u_ws C T N, w ∈ q_tbl) (hty : ∀ k, k < N → parseFieldDescriptor (T k).2.2.1 = some (ty0 k)) (hnm : ∀ a, a < N → ∀ b, b < N → a ≠ b → (T a).2.1 ≠ (T b).2.1) (hf : f < N)
    (hlink : Cond.fieldLink own index ref (T f).2.1 (T f).2.2.1 ∈ q_tbl) (hsame : ref = (T f).1 ∨ Cond.sameField ref (T f).1 (T f).2.1 (T f).2.2.1 ∈ q_tbl) (hfin : (T f).2.2.2 = false) {ty : FieldType} (hd : parseFieldDescriptor (T f).2.2.1 = some ty) (hn : narrow ty v = v) (hfit : fits ty v = true)
    {σ1 : ST} (hup : ∀ g, g < N → updV (q_fvk X σ k a) f v g = q_fvk X σ1 k a g) (e1 : ∀ b g, b ≠ a → σ1.1 b g = σ.1 b g) (e2 : ∀ b g, b ≠ a → σ1.2.1 b g = σ.2.1 b g) (e3 : ∀ b, b ≠ a → σ1.2.2 b = σ.2.2 b) (hB : q_B X σ1) (hTT : q_TT X σ1) (hKp : q_K n X σ σ1)
    (hdg : decode cc pc = .ok (.putfield index, 3))
    (kk : ∀ (H1 : Heap) (locs1 : List Loc), q_I X n σ0 H0 locs1 σ1 H1 → W p l e R s m args below meth c H1 locs1 cells slots Q (F0 m (pc + 3) ls rest)) : W p l e R s m args below meth c H locs cells slots Q (F0 m pc ls (v :: .ref a :: rest)) := by
  obtain ⟨hx, hb, hown, hts, ⟨hK, -, -⟩, -⟩ := E
  obtain ⟨cell, q1, q2, q3, q4⟩ := q_obj hI ha hk hc
  have hap := va_apart (own := own) hts hin ty0 hty hnm hK hc
  obtain ⟨hS, hfc, kC, hkC, hkind⟩ := hK.1 ci _ hc
  obtain ⟨cf, kf, fi, fd, hi, hsl⟩ := hS f hf
  have hi' : s.fieldFound? ref (T f).2.1 (T f).2.2.1 = some (cf, kf, fi, fd) := by
    rcases hsame with h | h
    · rw [h]; exact hi
    · exact u_same (hts _ h) _ hi
  have hlay := hts _ (hin _ (u_in_lay hf))
  unfold u_lay at hlay
  rw [if_neg (by rw [hfin]; decide)] at hlay
  have hst := (u_facts hfc hkC (u_lays hts hin hf) hi).1
  have h6 := u_store hfc hkC hkind hlay hi hd hn hfit
  refine W.putK hx hb (f := fd) ⟨hown, hts _ hlink, ⟨_, _, _, hi'⟩, hst⟩ (by rw [q2]; exact h6) q1 q3 (by rw [hsl]; exact k2_hasslot (q4 f hf)) rfl rfl hdg fun H' g1 g2 g3 => ?_
  rw [hsl] at g1 ⊢
  obtain ⟨i1, i2, i3, i4, i5, i6⟩ := hI
  obtain ⟨rfl, h20⟩ := hk
  refine kk H' _ ⟨i1, i2.up g3 ⟨fun _ => ?_, fun h => absurd h (by omega)⟩ e1 e2 e3, hB, hTT, i5.put g2 g3 (by show q_kd X a ≠ 0; omega), i6.tr hKp⟩
  rw [ha]
  refine ⟨_, hc, ?_⟩
  exact t_OB.to (V := updV (q_fvk X σ (ci + 1) a) f v) ⟨_, g1, q2, q3, t_set q4 hap hf v⟩ hup
theorem q_nar0 {ty : FieldType} {v : Int32} (h : ty = .int ∨ (ty = .boolean ∧ 0 ≤ v.toInt ∧ v.toInt ≤ 1)) : narrow ty (.int v) = .int v ∧ fits ty (.int v) = true := by
  rcases h with rfl | ⟨rfl, h1, h2⟩
  · exact ⟨rfl, rfl⟩
  · have h3 : v = 0 ∨ v = 1 := by
      rcases (show v.toInt = 0 ∨ v.toInt = 1 by omega) with h | h
      · exact Or.inl (Int32.toInt_inj.mp (by rw [h]; rfl))
      · exact Or.inr (Int32.toInt_inj.mp (by rw [h]; rfl))
    rcases h3 with rfl | rfl <;> exact ⟨rfl, rfl⟩
/-- putfield of an int or boolean -/
theorem q_puti (E : q_E p c cc s m args own X) (hI : q_I X n σ0 H0 locs σ H) (ha : q_kd X a = k) {ci N index : Nat} {C ref : String} {T : u_T} {ty0 : Nat → FieldType} {v : Int32} (hk : k = ci + 1 ∧ k < 20) (hc : vwCl[ci]? = some (C, T, N)) (hin : ∀ w ∈ u_ws C T N, w ∈ q_tbl) (hty : ∀ k, k < N → parseFieldDescriptor (T k).2.2.1 = some (ty0 k)) (hnm : ∀ a, a < N → ∀ b, b < N → a ≠ b → (T a).2.1 ≠ (T b).2.1) (hf : f < N)
    (hlink : Cond.fieldLink own index ref (T f).2.1 (T f).2.2.1 ∈ q_tbl) (hsame : ref = (T f).1 ∨ Cond.sameField ref (T f).1 (T f).2.1 (T f).2.2.1 ∈ q_tbl) (hfin : (T f).2.2.2 = false) (hft : q_ft k f = 0) (hcl : n < q_cl k f) (hdg : decode cc pc = .ok (.putfield index, 3))
    (hv : q_in (q_bn k f) v) (hn : ty0 f = .int ∨ (ty0 f = .boolean ∧ 0 ≤ v.toInt ∧ v.toInt ≤ 1))
    (kk : ∀ (H1 : Heap) (locs1 : List Loc), q_I X n σ0 H0 locs1 (q_si σ a f v) H1 → W p l e R s m args below meth c H1 locs1 cells slots Q (F0 m (pc + 3) ls rest)) : W p l e R s m args below meth c H locs cells slots Q (F0 m pc ls (.int v :: .ref a :: rest)) := by
  refine q_putf E hI ha hk hc hin hty hnm hf hlink hsame hfin (hty f hf) (q_nar0 hn).1 (q_nar0 hn).2 (fun g _ => q_fv_si hft g) (fun b g hb => ?_) (fun _ _ _ => rfl) (fun _ _ => rfl) (hI.2.2.1.si ha hv) hI.2.2.2.1 (q_K.si ha hcl) hdg kk
  show (if b = a ∧ g = f then v else σ.1 b g) = _
  rw [if_neg (fun h => hb h.1)]
/-- putfield of a long -/
theorem q_putl (E : q_E p c cc s m args own X) (hI : q_I X n σ0 H0 locs σ H) (ha : q_kd X a = k) {ci N index : Nat} {C ref : String} {T : u_T} {ty0 : Nat → FieldType} {v : Int64} (hk : k = ci + 1 ∧ k < 20) (hc : vwCl[ci]? = some (C, T, N)) (hin : ∀ w ∈ u_ws C T N, w ∈ q_tbl) (hty : ∀ k, k < N → parseFieldDescriptor (T k).2.2.1 = some (ty0 k)) (hnm : ∀ a, a < N → ∀ b, b < N → a ≠ b → (T a).2.1 ≠ (T b).2.1) (hf : f < N)
    (hlink : Cond.fieldLink own index ref (T f).2.1 (T f).2.2.1 ∈ q_tbl) (hsame : ref = (T f).1 ∨ Cond.sameField ref (T f).1 (T f).2.1 (T f).2.2.1 ∈ q_tbl) (hfin : (T f).2.2.2 = false) (hft : q_ft k f = 1) (hty2 : ty0 f = .long) (hdg : decode cc pc = .ok (.putfield index, 3))
    (kk : ∀ (H1 : Heap) (locs1 : List Loc), q_I X n σ0 H0 locs1 (q_sl σ a f v) H1 → W p l e R s m args below meth c H1 locs1 cells slots Q (F0 m (pc + 3) ls rest)) : W p l e R s m args below meth c H locs cells slots Q (F0 m pc ls (.long v :: .ref a :: rest)) := by
  refine q_putf E hI ha hk hc hin hty hnm hf hlink hsame hfin (hty f hf) (by rw [hty2]; rfl) (by rw [hty2]; rfl) (fun g _ => q_fv_sl hft g) (fun _ _ _ => rfl) (fun b g hb => ?_) (fun _ _ => rfl) hI.2.2.1 hI.2.2.2.1 (fun _ _ _ => rfl) hdg kk
  show (if b = a ∧ g = f then v else σ.2.1 b g) = _
  rw [if_neg (fun h => hb h.1)]
/-- putfield of a reader's text -/
theorem q_putt (E : q_E p c cc s m args own X) (hI : q_I X n σ0 H0 locs σ H) (ha : q_kd X a = k) {ci N index : Nat} {C ref : String} {T : u_T} {ty0 : Nat → FieldType} {v : Nat} (hk : k = ci + 1 ∧ k < 20) (hk2 : k = 4 ∨ k = 9) (hc : vwCl[ci]? = some (C, T, N)) (hin : ∀ w ∈ u_ws C T N, w ∈ q_tbl) (hty : ∀ k, k < N → parseFieldDescriptor (T k).2.2.1 = some (ty0 k)) (hnm : ∀ a, a < N → ∀ b, b < N → a ≠ b → (T a).2.1 ≠ (T b).2.1) (hf : 0 < N)
    (hlink : Cond.fieldLink own index ref (T 0).2.1 (T 0).2.2.1 ∈ q_tbl) (hsame : ref = (T 0).1 ∨ Cond.sameField ref (T 0).1 (T 0).2.1 (T 0).2.2.1 ∈ q_tbl) (hfin : (T 0).2.2.2 = false) (hty2 : ty0 0 = .array .byte) (hv : q_kd X v = 22) (hdg : decode cc pc = .ok (.putfield index, 3))
    (kk : ∀ (H1 : Heap) (locs1 : List Loc), q_I X n σ0 H0 locs1 (q_st σ a v) H1 → W p l e R s m args below meth c H1 locs1 cells slots Q (F0 m (pc + 3) ls rest)) : W p l e R s m args below meth c H locs cells slots Q (F0 m pc ls (.ref v :: .ref a :: rest)) := by
  have hft : ∀ g, q_ft k g = 3 ↔ g = 0 := by
    intro g
    rcases hk2 with rfl | rfl
    · refine ⟨fun h => ?_, fun h => by rw [h]; rfl⟩
      change (match g with | 0 => 3 | 8 => 2 | 9 => 2 | _ => 0) = 3 at h
      split at h <;> first | rfl | cases h
    · refine ⟨fun h => ?_, fun h => by rw [h]; rfl⟩
      change (match g with | 0 => 3 | 8 => 2 | 11 => 2 | _ => 0) = 3 at h
      split at h <;> first | rfl | cases h
  have hft3 : ∀ g, q_ft k g ≤ 3 := by
    intro g
    unfold q_ft
    split <;> (try split) <;> decide
  refine q_putf (f := 0) E hI ha hk hc hin hty hnm hf hlink hsame hfin (hty 0 hf) (by rw [hty2]; rfl) (by rw [hty2]; rfl) (fun g _ => q_fv_st hft hft3 g) (fun _ _ _ => rfl) (fun _ _ _ => rfl) (fun b hb => ?_) hI.2.2.1 (fun b hb => ?_) (fun _ _ _ => rfl) hdg kk
  · show (if b = a then v else σ.2.2 b) = _
    rw [if_neg hb]
  · show q_kd X (if b = a then v else σ.2.2 b) = 22
    by_cases hq : b = a
    · rw [if_pos hq]; exact hv
    · rw [if_neg hq]; exact hI.2.2.2.1 b hb
/-! arrays -/
theorem q_iald (E : q_E p c cc s m args own X) (hI : q_I X n σ0 H0 locs σ H) (ha : q_kd X a = k) (hk : 20 ≤ k ∧ q_et k = 1) {i : Int32} (h0 : 0 ≤ i.toInt) (h1 : i.toInt < q_ln X a) (hdg : decode cc pc = .ok (.iaload, 1))
    (kk : W p l e R s m args below meth c H locs cells slots Q (F0 m (pc + 1) ls (.int (σ.1 a i.toNatClampNeg) :: rest))) : W p l e R s m args below meth c H locs cells slots Q (F0 m pc ls (.int i :: .ref a :: rest)) := by
  obtain ⟨hx, hb, hown, hts, ⟨hK, -, -⟩, -⟩ := E
  have hc := q_arr hI ha hk.1
  have hin : vp_in i (q_ln X a) := vp_in_iff.mpr ⟨h0, h1⟩
  have hlt : i.toNatClampNeg < q_ln X a := Nat.not_le.mp fun q => hin (Or.inr q)
  rw [hk.2] at hc
  exact W.iald (v := .int (σ.1 a i.toNatClampNeg)) hx hb hc (q_kx_ty hK (t := 1) rfl _ _) (fun q => by cases q) (by rw [arrV_size]; exact hin) (by rw [arrV_read _ _ hlt]; unfold q_av; rw [hk.2]; rfl) rfl rfl hdg kk
theorem q_lald (E : q_E p c cc s m args own X) (hI : q_I X n σ0 H0 locs σ H) (ha : q_kd X a = k) (hk : 20 ≤ k ∧ q_et k = 2) {i : Int32} (h0 : 0 ≤ i.toInt) (h1 : i.toInt < q_ln X a) (hdg : decode cc pc = .ok (.laload, 1))
    (kk : W p l e R s m args below meth c H locs cells slots Q (F0 m (pc + 1) ls (.long (σ.2.1 a i.toNatClampNeg) :: rest))) : W p l e R s m args below meth c H locs cells slots Q (F0 m pc ls (.int i :: .ref a :: rest)) := by
  obtain ⟨hx, hb, hown, hts, ⟨hK, -, -⟩, -⟩ := E
  have hc := q_arr hI ha hk.1
  have hin : vp_in i (q_ln X a) := vp_in_iff.mpr ⟨h0, h1⟩
  have hlt : i.toNatClampNeg < q_ln X a := Nat.not_le.mp fun q => hin (Or.inr q)
  rw [hk.2] at hc
  exact W.lald (v := .long (σ.2.1 a i.toNatClampNeg)) hx hb hc (q_kx_ty hK (t := 2) rfl _ _) (fun q => by cases q) (by rw [arrV_size]; exact hin) (by rw [arrV_read _ _ hlt]; unfold q_av; rw [hk.2]; rfl) rfl rfl hdg kk
theorem q_bald (E : q_E p c cc s m args own X) (hI : q_I X n σ0 H0 locs σ H) (ha : q_kd X a = k) (hk : 20 ≤ k ∧ q_et k = 0) {i : Int32} (h0 : 0 ≤ i.toInt) (h1 : i.toInt < q_ln X a) (hdg : decode cc pc = .ok (.baload, 1))
    (kk : W p l e R s m args below meth c H locs cells slots Q (F0 m (pc + 1) ls (.int (σ.1 a i.toNatClampNeg) :: rest))) : W p l e R s m args below meth c H locs cells slots Q (F0 m pc ls (.int i :: .ref a :: rest)) := by
  obtain ⟨hx, hb, hown, hts, ⟨hK, -, -⟩, -⟩ := E
  have hc := q_arr hI ha hk.1
  have hin : vp_in i (q_ln X a) := vp_in_iff.mpr ⟨h0, h1⟩
  have hlt : i.toNatClampNeg < q_ln X a := Nat.not_le.mp fun q => hin (Or.inr q)
  rw [hk.2] at hc
  exact W.bald (v := .int (σ.1 a i.toNatClampNeg)) hx hb hc (q_kx_ty hK (t := 0) rfl _ _) (fun q => by cases q) (by rw [arrV_size]; exact hin) (by rw [arrV_read _ _ hlt]; unfold q_av; rw [hk.2]; rfl) rfl rfl hdg kk
theorem q_aald (E : q_E p c cc s m args own X) (hI : q_I X n σ0 H0 locs σ H) (ha : q_kd X a = k) (hk : k = 23 ∨ k = 24) {i : Int32} (h0 : 0 ≤ i.toInt) (h1 : i.toInt < q_ln X a) (hdg : decode cc pc = .ok (.aaload, 1))
    (kk : W p l e R s m args below meth c H locs cells slots Q (F0 m (pc + 1) ls (.ref (q_rf X a i.toNatClampNeg) :: rest))) : W p l e R s m args below meth c H locs cells slots Q (F0 m pc ls (.int i :: .ref a :: rest)) := by
  obtain ⟨hx, hb, hown, hts, ⟨hK, -, -⟩, -⟩ := E
  have hin : vp_in i (q_ln X a) := vp_in_iff.mpr ⟨h0, h1⟩
  have hlt : i.toNatClampNeg < q_ln X a := Nat.not_le.mp fun q => hin (Or.inr q)
  rcases hk with rfl | rfl
  · exact W.aald (ty := .object "CheatHeap$Tray") (v := .ref (q_rf X a i.toNatClampNeg)) hx hb (q_arr hI ha (by decide)) (q_kx_ty hK (t := 3) rfl _ _) rfl (fun q => by cases q) (by rw [arrV_size]; exact hin) (by rw [arrV_read _ _ hlt]; rfl) rfl rfl hdg kk
  · exact W.aald (ty := .object "CheatHeap$Game") (v := .ref (q_rf X a i.toNatClampNeg)) hx hb (q_arr hI ha (by decide)) (q_kx_ty hK (t := 4) rfl _ _) rfl (fun q => by cases q) (by rw [arrV_size]; exact hin) (by rw [arrV_read _ _ hlt]; rfl) rfl rfl hdg kk
theorem q_alen (E : q_E p c cc s m args own X) (hI : q_I X n σ0 H0 locs σ H) (ha : q_kd X a = k) (hk : 20 ≤ k) {t : Nat} {ty : FieldType} (he : q_et k = t) (ht : (q_tys X)[t]? = some (q_gA X t, ty)) (hdg : decode cc pc = .ok (.arraylength, 1))
    (kk : ∀ z : Int32, z.toInt = (q_ln X a : Int) → W p l e R s m args below meth c H locs cells slots Q (F0 m (pc + 1) ls (.int z :: rest))) : W p l e R s m args below meth c H locs cells slots Q (F0 m pc ls (.ref a :: rest)) := by
  obtain ⟨hx, hb, hown, hts, ⟨hK, -, -⟩, -⟩ := E
  have hc := q_arr hI ha hk
  rw [he] at hc
  have hln := hI.1.2.2.1 a
  exact W.alen (n := Int32.ofNat (q_ln X a)) hx hb hc (q_kx_ty hK ht _ _) (by rw [arrV_size] <;> rfl) rfl rfl hdg (kk _ (nI_toInt (by omega)))
theorem q_acf {σ1 : ST} {H1 : Heap} {z : Nat} {v : Value} (ha : q_kd X a = k) (hk : 20 ≤ k) (e : H1[a]? = some ((arrV (q_gA X (q_et k)) (q_ln X a) (q_av X σ k a)).setSlot z v)) (hup : ∀ g, updV (q_av X σ k a) z v g = q_av X σ1 k a g) : q_cf X σ1 a H1 := by
  refine ⟨fun h => absurd h (by omega), fun _ => ?_⟩
  rw [ha, e, arrV_store]
  congr 2
  funext g
  exact hup g
theorem q_iast (E : q_E p c cc s m args own X) (hI : q_I X n σ0 H0 locs σ H) (ha : q_kd X a = k) (hk : 20 ≤ k ∧ q_et k = 1) {i v : Int32} (h0 : 0 ≤ i.toInt) (h1 : i.toInt < q_ln X a) (hcl : n < q_cl k i.toNatClampNeg) (hv : q_in (q_bn k i.toNatClampNeg) v) (hdg : decode cc pc = .ok (.iastore, 1))
    (kk : ∀ (H1 : Heap) (locs1 : List Loc), q_I X n σ0 H0 locs1 (q_si σ a i.toNatClampNeg v) H1 → W p l e R s m args below meth c H1 locs1 cells slots Q (F0 m (pc + 1) ls rest)) : W p l e R s m args below meth c H locs cells slots Q (F0 m pc ls (.int v :: .int i :: .ref a :: rest)) := by
  obtain ⟨hx, hb, hown, hts, ⟨hK, -, -⟩, -⟩ := E
  have hc := q_arr hI ha hk.1
  have hin : vp_in i (q_ln X a) := vp_in_iff.mpr ⟨h0, h1⟩
  refine W.iast hx hb hc (by rw [hk.2]; exact q_kx_ty hK (t := 1) rfl _ _) (fun q => by cases q) (by rw [arrV_size]; exact hin) rfl rfl hdg fun H1 g1 g2 g3 => ?_
  obtain ⟨i1, i2, i3, i4, i5, i6⟩ := hI
  refine kk H1 _ ⟨i1, i2.up g3 (q_acf ha hk.1 g1 (fun g => ?_)) (fun b g hb => ?_) (fun _ _ _ => rfl) (fun _ _ => rfl), i3.si ha hv, i4, i5.put g2 g3 (by show q_kd X a ≠ 0; omega), i6.tr (q_K.si ha hcl)⟩
  · unfold updV q_av q_si
    rw [hk.2]
    by_cases hg : g = i.toNatClampNeg
    · subst hg; simp
    · simp [hg]
  · show (if b = a ∧ g = i.toNatClampNeg then v else σ.1 b g) = _
    rw [if_neg (fun h => hb h.1)]
theorem q_bast (E : q_E p c cc s m args own X) (hI : q_I X n σ0 H0 locs σ H) (ha : q_kd X a = k) (hk : 20 ≤ k ∧ q_et k = 0) {i v : Int32} (h0 : 0 ≤ i.toInt) (h1 : i.toInt < q_ln X a) (hcl : n < q_cl k i.toNatClampNeg) (hv : q_bn k i.toNatClampNeg = q_full) (hdg : decode cc pc = .ok (.bastore, 1))
    (kk : ∀ (H1 : Heap) (locs1 : List Loc), q_I X n σ0 H0 locs1 (q_si σ a i.toNatClampNeg v.toInt8.toInt32) H1 → W p l e R s m args below meth c H1 locs1 cells slots Q (F0 m (pc + 1) ls rest)) : W p l e R s m args below meth c H locs cells slots Q (F0 m pc ls (.int v :: .int i :: .ref a :: rest)) := by
  obtain ⟨hx, hb, hown, hts, ⟨hK, -, -⟩, -⟩ := E
  have hc := q_arr hI ha hk.1
  have hin : vp_in i (q_ln X a) := vp_in_iff.mpr ⟨h0, h1⟩
  refine W.bast hx hb hc (by rw [hk.2]; exact q_kx_ty hK (t := 0) rfl _ _) (fun q => by cases q) (by rw [arrV_size]; exact hin) rfl rfl hdg fun H1 g1 g2 g3 => ?_
  obtain ⟨i1, i2, i3, i4, i5, i6⟩ := hI
  refine kk H1 _ ⟨i1, i2.up g3 (q_acf ha hk.1 g1 (fun g => ?_)) (fun b g hb => ?_) (fun _ _ _ => rfl) (fun _ _ => rfl), i3.si ha (q_inU hv), i4, i5.put g2 g3 (by show q_kd X a ≠ 0; omega), i6.tr (q_K.si ha hcl)⟩
  · unfold updV q_av q_si
    rw [hk.2]
    by_cases hg : g = i.toNatClampNeg
    · subst hg; simp [narrow]
    · simp [hg]
  · show (if b = a ∧ g = i.toNatClampNeg then v.toInt8.toInt32 else σ.1 b g) = _
    rw [if_neg (fun h => hb h.1)]
theorem q_last (E : q_E p c cc s m args own X) (hI : q_I X n σ0 H0 locs σ H) (ha : q_kd X a = k) (hk : 20 ≤ k ∧ q_et k = 2) {i : Int32} {v : Int64} (h0 : 0 ≤ i.toInt) (h1 : i.toInt < q_ln X a) (hdg : decode cc pc = .ok (.lastore, 1))
    (kk : ∀ (H1 : Heap) (locs1 : List Loc), q_I X n σ0 H0 locs1 (q_sl σ a i.toNatClampNeg v) H1 → W p l e R s m args below meth c H1 locs1 cells slots Q (F0 m (pc + 1) ls rest)) : W p l e R s m args below meth c H locs cells slots Q (F0 m pc ls (.long v :: .int i :: .ref a :: rest)) := by
  obtain ⟨hx, hb, hown, hts, ⟨hK, -, -⟩, -⟩ := E
  have hc := q_arr hI ha hk.1
  have hin : vp_in i (q_ln X a) := vp_in_iff.mpr ⟨h0, h1⟩
  refine W.last hx hb hc (by rw [hk.2]; exact q_kx_ty hK (t := 2) rfl _ _) (fun q => by cases q) (by rw [arrV_size]; exact hin) rfl rfl hdg fun H1 g1 g2 g3 => ?_
  obtain ⟨i1, i2, i3, i4, i5, i6⟩ := hI
  refine kk H1 _ ⟨i1, i2.up g3 (q_acf ha hk.1 g1 (fun g => ?_)) (fun _ _ _ => rfl) (fun b g hb => ?_) (fun _ _ => rfl), i3, i4, i5.put g2 g3 (by show q_kd X a ≠ 0; omega), i6.tr (fun _ _ _ => rfl)⟩
  · unfold updV q_av q_sl
    rw [hk.2]
    by_cases hg : g = i.toNatClampNeg
    · subst hg; simp
    · simp [hg]
  · show (if b = a ∧ g = i.toNatClampNeg then v else σ.2.1 b g) = _
    rw [if_neg (fun h => hb h.1)]
end QR
end
/-! FROM 03b.rows.lean.txt -/
section
section QB
variable {p : Program} {l : Launch} {e : Env} {R : Room} {s : State} {m : MethodId} {args : Array Value} {below : List Frame} {meth : Method} {c : Code} {H : Heap} {locs : List Loc} {cells slots : Nat} {Q : State → Prop} {cc : ByteArray} {own : String} {X : XW} {n : Nat} {σ0 σ : ST} {H0 : Heap} {pc : Nat} {ls : Array Slot} {rest : List Value} {a k f : Nat}
theorem q_eqI {x y : Int32} : x = y ↔ x.toInt = y.toInt := Int32.toInt_inj.symm
theorem q_z0 : (0 : Int32).toInt = 0 := rfl
theorem q_icmp_eq (E : q_E p c cc s m args own X) {x y : Int32} {A B : Int} {off : Int} {tgt : Nat} (ea : x.toInt = A) (eb : y.toInt = B) (hdg : decode cc pc = .ok (.if_icmp .eq off, 3)) (ht : (pc : Int) + off = (tgt : Int)) (kt : A = B → W p l e R s m args below meth c H locs cells slots Q (F0 m tgt ls rest)) (kf : A ≠ B → W p l e R s m args below meth c H locs cells slots Q (F0 m (pc + 3) ls rest)) : W p l e R s m args below meth c H locs cells slots Q (F0 m pc ls (.int y :: .int x :: rest)) :=
  lv_icmp_eq E.1 E.2.1 hdg ht (fun h => kt (by rw [← ea, ← eb, h])) (fun h => kf (fun q => h (q_eqI.mpr (by omega))))
theorem q_icmp_ne (E : q_E p c cc s m args own X) {x y : Int32} {A B : Int} {off : Int} {tgt : Nat} (ea : x.toInt = A) (eb : y.toInt = B) (hdg : decode cc pc = .ok (.if_icmp .ne off, 3)) (ht : (pc : Int) + off = (tgt : Int)) (kt : A ≠ B → W p l e R s m args below meth c H locs cells slots Q (F0 m tgt ls rest)) (kf : A = B → W p l e R s m args below meth c H locs cells slots Q (F0 m (pc + 3) ls rest)) : W p l e R s m args below meth c H locs cells slots Q (F0 m pc ls (.int y :: .int x :: rest)) :=
  lv_icmp_ne E.1 E.2.1 hdg ht (fun h => kt (fun q => h (q_eqI.mpr (by omega)))) (fun h => kf (by rw [← ea, ← eb, h]))
theorem q_icmp_lt (E : q_E p c cc s m args own X) {x y : Int32} {A B : Int} {off : Int} {tgt : Nat} (ea : x.toInt = A) (eb : y.toInt = B) (hdg : decode cc pc = .ok (.if_icmp .lt off, 3)) (ht : (pc : Int) + off = (tgt : Int)) (kt : A < B → W p l e R s m args below meth c H locs cells slots Q (F0 m tgt ls rest)) (kf : B ≤ A → W p l e R s m args below meth c H locs cells slots Q (F0 m (pc + 3) ls rest)) : W p l e R s m args below meth c H locs cells slots Q (F0 m pc ls (.int y :: .int x :: rest)) :=
  lv_icmp_lt E.1 E.2.1 hdg ht (fun h => kt (by rw [Int32.lt_iff_toInt_lt] at h; omega)) (fun h => kf (by rw [Int32.lt_iff_toInt_lt] at h; omega))
theorem q_icmp_ge (E : q_E p c cc s m args own X) {x y : Int32} {A B : Int} {off : Int} {tgt : Nat} (ea : x.toInt = A) (eb : y.toInt = B) (hdg : decode cc pc = .ok (.if_icmp .ge off, 3)) (ht : (pc : Int) + off = (tgt : Int)) (kt : B ≤ A → W p l e R s m args below meth c H locs cells slots Q (F0 m tgt ls rest)) (kf : A < B → W p l e R s m args below meth c H locs cells slots Q (F0 m (pc + 3) ls rest)) : W p l e R s m args below meth c H locs cells slots Q (F0 m pc ls (.int y :: .int x :: rest)) :=
  lv_icmp_ge E.1 E.2.1 hdg ht (fun h => kt (by rw [Int32.le_iff_toInt_le] at h; omega)) (fun h => kf (by rw [Int32.le_iff_toInt_le] at h; omega))
theorem q_icmp_gt (E : q_E p c cc s m args own X) {x y : Int32} {A B : Int} {off : Int} {tgt : Nat} (ea : x.toInt = A) (eb : y.toInt = B) (hdg : decode cc pc = .ok (.if_icmp .gt off, 3)) (ht : (pc : Int) + off = (tgt : Int)) (kt : B < A → W p l e R s m args below meth c H locs cells slots Q (F0 m tgt ls rest)) (kf : A ≤ B → W p l e R s m args below meth c H locs cells slots Q (F0 m (pc + 3) ls rest)) : W p l e R s m args below meth c H locs cells slots Q (F0 m pc ls (.int y :: .int x :: rest)) :=
  lv_icmp_gt E.1 E.2.1 hdg ht (fun h => kt (by rw [Int32.lt_iff_toInt_lt] at h; omega)) (fun h => kf (by rw [Int32.lt_iff_toInt_lt] at h; omega))
theorem q_icmp_le (E : q_E p c cc s m args own X) {x y : Int32} {A B : Int} {off : Int} {tgt : Nat} (ea : x.toInt = A) (eb : y.toInt = B) (hdg : decode cc pc = .ok (.if_icmp .le off, 3)) (ht : (pc : Int) + off = (tgt : Int)) (kt : A ≤ B → W p l e R s m args below meth c H locs cells slots Q (F0 m tgt ls rest)) (kf : B < A → W p l e R s m args below meth c H locs cells slots Q (F0 m (pc + 3) ls rest)) : W p l e R s m args below meth c H locs cells slots Q (F0 m pc ls (.int y :: .int x :: rest)) :=
  lv_icmp_le E.1 E.2.1 hdg ht (fun h => kt (by rw [Int32.le_iff_toInt_le] at h; omega)) (fun h => kf (by rw [Int32.le_iff_toInt_le] at h; omega))
theorem q_if_eq (E : q_E p c cc s m args own X) {x : Int32} {A : Int} {off : Int} {tgt : Nat} (ea : x.toInt = A) (hdg : decode cc pc = .ok (.ifCond .eq off, 3)) (ht : (pc : Int) + off = (tgt : Int)) (kt : A = 0 → W p l e R s m args below meth c H locs cells slots Q (F0 m tgt ls rest)) (kf : A ≠ 0 → W p l e R s m args below meth c H locs cells slots Q (F0 m (pc + 3) ls rest)) : W p l e R s m args below meth c H locs cells slots Q (F0 m pc ls (.int x :: rest)) :=
  lv_if_eq E.1 E.2.1 hdg ht (fun h => kt (by rw [← ea, h]; rfl)) (fun h => kf (fun q => h (q_eqI.mpr (by rw [q_z0]; omega))))
theorem q_if_ne (E : q_E p c cc s m args own X) {x : Int32} {A : Int} {off : Int} {tgt : Nat} (ea : x.toInt = A) (hdg : decode cc pc = .ok (.ifCond .ne off, 3)) (ht : (pc : Int) + off = (tgt : Int)) (kt : A ≠ 0 → W p l e R s m args below meth c H locs cells slots Q (F0 m tgt ls rest)) (kf : A = 0 → W p l e R s m args below meth c H locs cells slots Q (F0 m (pc + 3) ls rest)) : W p l e R s m args below meth c H locs cells slots Q (F0 m pc ls (.int x :: rest)) :=
  lv_if_ne E.1 E.2.1 hdg ht (fun h => kt (fun q => h (q_eqI.mpr (by rw [q_z0]; omega)))) (fun h => kf (by rw [← ea, h]; rfl))
theorem q_if_lt (E : q_E p c cc s m args own X) {x : Int32} {A : Int} {off : Int} {tgt : Nat} (ea : x.toInt = A) (hdg : decode cc pc = .ok (.ifCond .lt off, 3)) (ht : (pc : Int) + off = (tgt : Int)) (kt : A < 0 → W p l e R s m args below meth c H locs cells slots Q (F0 m tgt ls rest)) (kf : 0 ≤ A → W p l e R s m args below meth c H locs cells slots Q (F0 m (pc + 3) ls rest)) : W p l e R s m args below meth c H locs cells slots Q (F0 m pc ls (.int x :: rest)) :=
  lv_if_lt E.1 E.2.1 hdg ht (fun h => kt (by rw [Int32.lt_iff_toInt_lt, q_z0] at h; omega)) (fun h => kf (by rw [Int32.lt_iff_toInt_lt, q_z0] at h; omega))
theorem q_if_ge (E : q_E p c cc s m args own X) {x : Int32} {A : Int} {off : Int} {tgt : Nat} (ea : x.toInt = A) (hdg : decode cc pc = .ok (.ifCond .ge off, 3)) (ht : (pc : Int) + off = (tgt : Int)) (kt : 0 ≤ A → W p l e R s m args below meth c H locs cells slots Q (F0 m tgt ls rest)) (kf : A < 0 → W p l e R s m args below meth c H locs cells slots Q (F0 m (pc + 3) ls rest)) : W p l e R s m args below meth c H locs cells slots Q (F0 m pc ls (.int x :: rest)) :=
  lv_if_ge E.1 E.2.1 hdg ht (fun h => kt (by rw [Int32.le_iff_toInt_le, q_z0] at h; omega)) (fun h => kf (by rw [Int32.le_iff_toInt_le, q_z0] at h; omega))
theorem q_if_gt (E : q_E p c cc s m args own X) {x : Int32} {A : Int} {off : Int} {tgt : Nat} (ea : x.toInt = A) (hdg : decode cc pc = .ok (.ifCond .gt off, 3)) (ht : (pc : Int) + off = (tgt : Int)) (kt : 0 < A → W p l e R s m args below meth c H locs cells slots Q (F0 m tgt ls rest)) (kf : A ≤ 0 → W p l e R s m args below meth c H locs cells slots Q (F0 m (pc + 3) ls rest)) : W p l e R s m args below meth c H locs cells slots Q (F0 m pc ls (.int x :: rest)) :=
  lv_if_gt E.1 E.2.1 hdg ht (fun h => kt (by rw [Int32.lt_iff_toInt_lt, q_z0] at h; omega)) (fun h => kf (by rw [Int32.lt_iff_toInt_lt, q_z0] at h; omega))
theorem q_if_le (E : q_E p c cc s m args own X) {x : Int32} {A : Int} {off : Int} {tgt : Nat} (ea : x.toInt = A) (hdg : decode cc pc = .ok (.ifCond .le off, 3)) (ht : (pc : Int) + off = (tgt : Int)) (kt : A ≤ 0 → W p l e R s m args below meth c H locs cells slots Q (F0 m tgt ls rest)) (kf : 0 < A → W p l e R s m args below meth c H locs cells slots Q (F0 m (pc + 3) ls rest)) : W p l e R s m args below meth c H locs cells slots Q (F0 m pc ls (.int x :: rest)) :=
  lv_if_le E.1 E.2.1 hdg ht (fun h => kt (by rw [Int32.le_iff_toInt_le, q_z0] at h; omega)) (fun h => kf (by rw [Int32.le_iff_toInt_le, q_z0] at h; omega))
/-- compare of longs -/
theorem q_lcmp (E : q_E p c cc s m args own X) {x y : Int64} (hdg : decode cc pc = .ok (.lcmp, 1)) (kk : ∀ z : Int32, ((z.toInt < 0 ↔ x.toInt < y.toInt) ∧ (0 < z.toInt ↔ y.toInt < x.toInt)) → W p l e R s m args below meth c H locs cells slots Q (F0 m (pc + 1) ls (.int z :: rest))) : W p l e R s m args below meth c H locs cells slots Q (F0 m pc ls (.long y :: .long x :: rest)) := by
  refine W.lcmp E.1 E.2.1 hdg (kk _ ⟨?_, ?_⟩)
  · have h := lg_cmp_lt x y
    rw [Int32.lt_iff_toInt_lt, q_z0, Int64.lt_iff_toInt_lt] at h
    exact h
  · have h := lg_cmp_gt x y
    rw [Int32.lt_iff_toInt_lt, q_z0, Int64.lt_iff_toInt_lt] at h
    exact h
/-- stores into arrays, the new state named -/
theorem q_iastN (E : q_E p c cc s m args own X) (hI : q_I X n σ0 H0 locs σ H) (ha : q_kd X a = k) (hk : 20 ≤ k ∧ q_et k = 1) {i v : Int32} (h0 : 0 ≤ i.toInt) (h1 : i.toInt < q_ln X a) (hcl : n < q_cl k i.toNatClampNeg) (hv : q_in (q_bn k i.toNatClampNeg) v) (hdg : decode cc pc = .ok (.iastore, 1))
    (kk : ∀ (H1 : Heap) (locs1 : List Loc) (σ1 : ST), σ1 = q_si σ a i.toNatClampNeg v → q_I X n σ0 H0 locs1 σ1 H1 → W p l e R s m args below meth c H1 locs1 cells slots Q (F0 m (pc + 1) ls rest)) : W p l e R s m args below meth c H locs cells slots Q (F0 m pc ls (.int v :: .int i :: .ref a :: rest)) :=
  q_iast E hI ha hk h0 h1 hcl hv hdg (fun H1 l1 h => kk H1 l1 _ rfl h)
theorem q_bastN (E : q_E p c cc s m args own X) (hI : q_I X n σ0 H0 locs σ H) (ha : q_kd X a = k) (hk : 20 ≤ k ∧ q_et k = 0) {i v : Int32} (h0 : 0 ≤ i.toInt) (h1 : i.toInt < q_ln X a) (hcl : n < q_cl k i.toNatClampNeg) (hv : q_bn k i.toNatClampNeg = q_full) (hdg : decode cc pc = .ok (.bastore, 1))
    (kk : ∀ (H1 : Heap) (locs1 : List Loc) (σ1 : ST), σ1 = q_si σ a i.toNatClampNeg v.toInt8.toInt32 → q_I X n σ0 H0 locs1 σ1 H1 → W p l e R s m args below meth c H1 locs1 cells slots Q (F0 m (pc + 1) ls rest)) : W p l e R s m args below meth c H locs cells slots Q (F0 m pc ls (.int v :: .int i :: .ref a :: rest)) :=
  q_bast E hI ha hk h0 h1 hcl hv hdg (fun H1 l1 h => kk H1 l1 _ rfl h)
theorem q_lastN (E : q_E p c cc s m args own X) (hI : q_I X n σ0 H0 locs σ H) (ha : q_kd X a = k) (hk : 20 ≤ k ∧ q_et k = 2) {i : Int32} {v : Int64} (h0 : 0 ≤ i.toInt) (h1 : i.toInt < q_ln X a) (hdg : decode cc pc = .ok (.lastore, 1))
    (kk : ∀ (H1 : Heap) (locs1 : List Loc) (σ1 : ST), σ1 = q_sl σ a i.toNatClampNeg v → q_I X n σ0 H0 locs1 σ1 H1 → W p l e R s m args below meth c H1 locs1 cells slots Q (F0 m (pc + 1) ls rest)) : W p l e R s m args below meth c H locs cells slots Q (F0 m pc ls (.long v :: .int i :: .ref a :: rest)) :=
  q_last E hI ha hk h0 h1 hdg (fun H1 l1 h => kk H1 l1 _ rfl h)
end QB
theorem q_tk23 {X : XW} {n : Nat} {σ0 σ : ST} {H0 H : Heap} {locs : List Loc} (hI : q_I X n σ0 H0 locs σ H) {a : Nat} (ha : q_kd X a = 23) {i : Int32} (h0 : 0 ≤ i.toInt) (h1 : i.toInt < 4) : q_kd X (q_rf X a i.toNatClampNeg) = 10 := by
  have hv : vp_in i 4 := vp_in_iff.mpr ⟨h0, by simpa using h1⟩
  obtain ⟨j, hj, rfl⟩ := vp_in_of hv (by decide)
  rw [nI_clamp (by omega)]
  exact q_tk hI ha (by match j, hj with | 0, _ => rfl | 1, _ => rfl | 2, _ => rfl | 3, _ => rfl) (by decide)
theorem q_tk24 {X : XW} {n : Nat} {σ0 σ : ST} {H0 H : Heap} {locs : List Loc} (hI : q_I X n σ0 H0 locs σ H) {a : Nat} (ha : q_kd X a = 24) {i : Int32} (h0 : 0 ≤ i.toInt) (h1 : i.toInt < 3) : q_kd X (q_rf X a i.toNatClampNeg) = 1 := by
  have hv : vp_in i 3 := vp_in_iff.mpr ⟨h0, by simpa using h1⟩
  obtain ⟨j, hj, rfl⟩ := vp_in_of hv (by decide)
  rw [nI_clamp (by omega)]
  exact q_tk hI ha (by match j, hj with | 0, _ => rfl | 1, _ => rfl | 2, _ => rfl) (by decide)
theorem q_ne0 {y : Int32} (h : y.toInt ≠ 0) : ¬ y = 0 := fun q => h (by rw [q]; rfl)
theorem q_ne0l {y : Int64} (h : y.toInt ≠ 0) : ¬ y = 0 := fun q => h (by rw [q]; rfl)
theorem q_add {x y z : Int32} (e : z = x + y) (h1 : -2147483648 ≤ x.toInt + y.toInt) (h2 : x.toInt + y.toInt ≤ 2147483647) : z.toInt = x.toInt + y.toInt := by
  rw [e, Int32.toInt_add]
  exact Int.bmod_eq_of_le (by omega) (by omega)
theorem q_sub {x y z : Int32} (e : z = x - y) (h1 : -2147483648 ≤ x.toInt - y.toInt) (h2 : x.toInt - y.toInt ≤ 2147483647) : z.toInt = x.toInt - y.toInt := by
  rw [e, Int32.toInt_sub]
  exact Int.bmod_eq_of_le (by omega) (by omega)
theorem q_mul {x y z : Int32} (e : z = x * y) (h1 : -2147483648 ≤ x.toInt * y.toInt) (h2 : x.toInt * y.toInt ≤ 2147483647) : z.toInt = x.toInt * y.toInt := by
  rw [e, Int32.toInt_mul]
  exact Int.bmod_eq_of_le (by omega) (by omega)
theorem q_i2l (x : Int32) : x.toInt64.toInt = x.toInt := Int32.toInt_toInt64 x
theorem q_cn {x : Int32} : x.toNatClampNeg = x.toInt.toNat := rfl
end
/-! FROM 04.calls.lean.txt -/
section
theorem q_goodT : ∀ w ∈ q_tbl, (w.onTables && w.keeps) = true ∨ ∃ ty, w = .arrayClass ty := by
  intro w h
  rcases List.mem_append.mp h with h | h
  · simp only [q_extra, List.mem_cons, List.not_mem_nil, or_false] at h
    rcases h with rfl | rfl | rfl | rfl <;> exact Or.inl rfl
  · exact good_of_word (List.mem_filter.mp h).2
theorem q_goodIn {ws : List Cond} (h : ∀ w ∈ ws, w ∈ q_tbl) : GoodIn q_tbl ws := fun w hw => ⟨h w hw, q_goodT w (h w hw)⟩
/-- a word of the tables by its place -/
theorem q_in_t {i : Nat} {w : Cond} (h : tables_1[i]? = some w) (g : goodWord w = true) : w ∈ q_tbl := List.mem_append_right _ <| List.mem_filter.mpr ⟨List.mem_append_right _ (List.mem_of_getElem? h), g⟩
theorem q_in_m {w : Cond} (h : w ∈ tables_1) (g : goodWord w = true) : w ∈ q_tbl := List.mem_append_right _ <| List.mem_filter.mpr ⟨List.mem_append_right _ h, g⟩
theorem q_in_t1 {i : Nat} {w : Cond} (h : tables_1_1[i]? = some w) (g : goodWord w = true) : w ∈ q_tbl := q_in_m (List.mem_append_left _ (List.mem_of_getElem? h)) g
theorem q_in_t2 {i : Nat} {w : Cond} (h : tables_1_2[i]? = some w) (g : goodWord w = true) : w ∈ q_tbl := q_in_m (List.mem_append_right _ (List.mem_append_left _ (List.mem_of_getElem? h))) g
theorem q_in_t3 {i : Nat} {w : Cond} (h : tables_1_3[i]? = some w) (g : goodWord w = true) : w ∈ q_tbl := q_in_m (List.mem_append_right _ (List.mem_append_right _ (List.mem_append_left _ (List.mem_of_getElem? h)))) g
theorem q_in_t4 {i : Nat} {w : Cond} (h : tables_1_4[i]? = some w) (g : goodWord w = true) : w ∈ q_tbl := q_in_m (List.mem_append_right _ (List.mem_append_right _ (List.mem_append_right _ (List.mem_append_left _ (List.mem_of_getElem? h))))) g
theorem q_in_t5 {i : Nat} {w : Cond} (h : tables_1_5[i]? = some w) (g : goodWord w = true) : w ∈ q_tbl := q_in_m (List.mem_append_right _ (List.mem_append_right _ (List.mem_append_right _ (List.mem_append_right _ (List.mem_append_left _ (List.mem_of_getElem? h)))))) g
theorem q_in_t6 {i : Nat} {w : Cond} (h : tables_1_6[i]? = some w) (g : goodWord w = true) : w ∈ q_tbl := q_in_m (List.mem_append_right _ (List.mem_append_right _ (List.mem_append_right _ (List.mem_append_right _ (List.mem_append_right _ (List.mem_append_left _ (List.mem_of_getElem? h))))))) g
theorem q_in_t7 {i : Nat} {w : Cond} (h : tables_1_7[i]? = some w) (g : goodWord w = true) : w ∈ q_tbl := q_in_m (List.mem_append_right _ (List.mem_append_right _ (List.mem_append_right _ (List.mem_append_right _ (List.mem_append_right _ (List.mem_append_right _ (List.mem_append_left _ (List.mem_of_getElem? h)))))))) g
theorem q_in_t8 {i : Nat} {w : Cond} (h : tables_1_8[i]? = some w) (g : goodWord w = true) : w ∈ q_tbl := q_in_m (List.mem_append_right _ (List.mem_append_right _ (List.mem_append_right _ (List.mem_append_right _ (List.mem_append_right _ (List.mem_append_right _ (List.mem_append_right _ (List.mem_append_left _ (List.mem_of_getElem? h))))))))) g
theorem q_in_t9 {i : Nat} {w : Cond} (h : tables_1_9[i]? = some w) (g : goodWord w = true) : w ∈ q_tbl := q_in_m (List.mem_append_right _ (List.mem_append_right _ (List.mem_append_right _ (List.mem_append_right _ (List.mem_append_right _ (List.mem_append_right _ (List.mem_append_right _ (List.mem_append_right _ (List.mem_of_getElem? h))))))))) g
theorem q_in_p {i : Nat} {w : Cond} (h : (k2_sels lw_privs)[i]? = some w) (g : goodWord w = true) : w ∈ q_tbl := List.mem_append_right _ <| List.mem_filter.mpr ⟨List.mem_append_left _ (List.mem_of_getElem? h), g⟩
theorem q_in_x {i : Nat} {w : Cond} (h : q_extra[i]? = some w) : w ∈ q_tbl := List.mem_append_left _ (List.mem_of_getElem? h)
theorem q_KX.warm {X : XW} {s U : State} (hW : s.WarmedH U.vm) (h : q_KX X s) : q_KX X U := ⟨va_K.moved hW.alike h.1, fun r hr => va_Nw.warmM hW (h.2.1 r hr), fun r hr => vk_R.warm hW (h.2.2 r hr)⟩
theorem q_SW.kept {X : XW} {s U : State} {H H1 : Heap} (hvm : s.vm.Alike U.vm) (h : q_SW X s H) (hq : ∀ a : Nat, a < H.size → ¬ q_reg X a → H1[a]? = H[a]?) : q_SW X U H1 := ⟨(h.1.moved hvm).kept hq, (h.2.1.moved hvm).kept hq, (h.2.2.moved hvm).kept hq⟩
/-- what a call site says of the tables: an instance method of the class C itself -/
def q_okV (own : String) (index : Nat) (C : String) (y : MethodName) (bytes : ByteArray) (mL : Nat) (ret : Option FieldType) (n : Nat) : Prop :=
  Cond.methodLink own index y ∈ q_tbl ∧ Cond.instanceMethod y ∈ q_tbl ∧ Cond.selects C y y ∈ q_tbl ∧ Cond.initialized C ∈ q_tbl ∧ Cond.code y bytes mL ret ∈ q_tbl ∧ (y.cls = C ∧ y.cls ≠ "java/lang/invoke/MethodHandle" ∧ y.cls ≠ "java/lang/invoke/VarHandle" ∧ (parseMethodDescriptor y.desc).map (fun d => d.parameters.length) = some n)
/-- a static method -/
def q_okS (own : String) (index : Nat) (y : MethodName) (bytes : ByteArray) (mL : Nat) (ret : Option FieldType) (n : Nat) : Prop :=
  Cond.methodLink own index y ∈ q_tbl ∧ Cond.static y ∈ q_tbl ∧ Cond.initialized y.cls ∈ q_tbl ∧ Cond.code y bytes mL ret ∈ q_tbl ∧ (y.cls ≠ "java/lang/invoke/MethodHandle" ∧ y.cls ≠ "java/lang/invoke/VarHandle" ∧ (parseMethodDescriptor y.desc).map (fun d => d.parameters.length) = some n)
/-- an inherited method y, called by the name x, of a receiver of class C -/
def q_okU (own : String) (index : Nat) (C owner : String) (x y : MethodName) (bytes : ByteArray) (mL : Nat) (ret : Option FieldType) (n : Nat) : Prop :=
  Cond.methodLink own index x ∈ q_tbl ∧ Cond.sameMethod x.cls owner x.name x.desc ∈ q_tbl ∧ Cond.selects C x y ∈ q_tbl ∧ Cond.instanceMethod y ∈ q_tbl ∧ Cond.initialized y.cls ∈ q_tbl ∧ Cond.code y bytes mL ret ∈ q_tbl ∧ (owner ≠ "java/lang/invoke/MethodHandle" ∧ owner ≠ "java/lang/invoke/VarHandle" ∧ (parseMethodDescriptor x.desc).map (fun d => d.parameters.length) = some n) ∧ (x.name = y.name ∧ x.desc = y.desc ∧ owner = y.cls)
abbrev q_Qi (X : XW) (n : Nat) (σ : ST) (post : Int32 → ST → Prop) : Array Value → State → Outcome → State → Prop := va_Qi (S := ST) post (fun σ' t => q_Post X n σ σ' t.heap) (q_reg X)
abbrev q_Ql (X : XW) (n : Nat) (σ : ST) (post : Int64 → ST → Prop) : Array Value → State → Outcome → State → Prop := va_Ql (S := ST) post (fun σ' t => q_Post X n σ σ' t.heap) (q_reg X)
abbrev q_Qv (X : XW) (n : Nat) (σ : ST) (post : ST → Prop) : Array Value → State → Outcome → State → Prop := va_Qv (S := ST) post (fun σ' t => q_Post X n σ σ' t.heap) (q_reg X)
abbrev q_Qq (X : XW) (n : Nat) (σ : ST) (post : Option Nat → ST → Prop) : Array Value → State → Outcome → State → Prop := va_Qq (S := ST) post (fun σ' t => q_Post X n σ σ' t.heap) (q_reg X)
abbrev q_P (X : XW) (σ : ST) (av : List Value) : Array Value → State → Prop := va_Pc av (q_Pre X σ)
theorem q_blind {X : XW} {σ : ST} {av : List Value} : FrameBlind (q_P X σ av) := by
  rintro a U g mk ⟨h1, hT, hR, hB, hTT, hK, hW⟩
  exact ⟨h1, hT, hR, hB, hTT, ⟨va_K.moved (u := U) (U := U.calling g mk a) (Vm.Alike.refl U.vm) hK.1, fun r hr => va_Nw.same (u := U) (U := U.calling g mk a) rfl rfl (hK.2.1 r hr), fun r hr => vk_R.same (u := U) (U := U.calling g mk a) rfl (hK.2.2 r hr)⟩, q_SW.kept (s := U) (U := U.calling g mk a) (Vm.Alike.refl U.vm) hW (fun _ _ _ => rfl)⟩
/-- a method's proof begins -/
theorem q_met {l : Launch} {y : MethodName} {cc : ByteArray} {mL : Nat} {ret : Option FieldType} {rm : Room} {av : List Value} {X : XW} {σ : ST} {own : String} {Qc : Array Value → State → Outcome → State → Prop} (n : Nat) (hy : plainFor y = true) (ho : y.cls = own) (hlen : (lg_sl av).length ≤ mL)
    (body : ∀ (p : Program) (e : Env) (s : State) (m : MethodId) (below : List Frame) (meth : Method) (c : Code), q_E p c cc s m av.toArray own X → c.maxLocals = mL → meth.sig.returnType = ret → meth.locks = false → q_I X n σ s.heap [] σ s.heap → ∀ ls : Array Slot, lv_has ls mL (lv_args 0 av) → W p l e rm s m av.toArray below meth c s.heap [] 0 0 (MQ below Qc av.toArray s 0 0 (q_reg X)) (F0 m 0 ls [])) :
    Met l y (q_ws y cc mL ret) rm (q_P X σ av) Qc 0 0 (q_reg X) := by
  refine MetFree.of_bodySF (code := cc) (maxLocals := mL) (ret := ret) hy ?_ ?_
  · intro args s m h hn
    obtain ⟨meth, c, h1, h2, h3, h4, h5, h6, -, -⟩ := Cond.code_spec hn (atoms_spec (ws := q_ws y cc mL ret) h _ List.mem_cons_self)
    exact ⟨meth, c, h1, h2, h3, h4, h5, h6⟩
  intro p e s m args below meth c s₁ B hml hv _
  obtain ⟨rfl, hT, hR, hB, hTT, hK, hW⟩ := hv
  have hh0 : s₁.heap = s.heap := by rw [B.state]; rfl
  suffices hW9 : W p l e rm s m av.toArray below meth c s.heap [] 0 0 (MQ below Qc av.toArray s 0 0 (q_reg X)) (entryFrame m av.toArray mL) by
    obtain ⟨t, a1, o, b1, b2, b3⟩ := hW9 s₁ hh0 (Stand.of_body B)
    exact ⟨t, o, a1, b1, b2, ⟨b3.1, b3.2⟩⟩
  have hts := atoms_spec (ws := q_ws y cc mL ret) B.pre
  have hown : s.vm.findClass y.cls = some m.cls := findClass_of_methodNamed B.named
  rw [ho] at hown
  have hl := lv_entry av hlen
  rw [lg_entry_eq]
  generalize (lg_sl av ++ List.replicate (mL - (lg_sl av).length) Slot.unset).toArray = ls at hl ⊢
  exact body p e s m below meth c ⟨B.exec, B.bytes, hown, fun w hw => hts w (List.mem_cons_of_mem _ hw), hK, hW⟩ hml B.returns B.notSynchronized ⟨hT, hR, hB, hTT, va_S.rf, q_K.rf⟩ ls hl
theorem q_metQ {l : Launch} {y : MethodName} {cc : ByteArray} {mL : Nat} {ret : Option FieldType} {rm : Room} {av : List Value} {X : XW} {σ : ST} {own : String} {Qc : Array Value → State → Outcome → State → Prop} (n : Nat) (hy : plainFor y = true) (ho : y.cls = own) (hlen : (lg_sl av).length ≤ mL)
    (body : ∀ (QQ : Array Value → State → Outcome → State → Prop), QQ = Qc → ∀ (p : Program) (e : Env) (s : State) (m : MethodId) (below : List Frame) (meth : Method) (c : Code), q_E p c cc s m av.toArray own X → c.maxLocals = mL → meth.sig.returnType = ret → meth.locks = false → q_I X n σ s.heap [] σ s.heap → ∀ ls : Array Slot, lv_has ls mL (lv_args 0 av) → W p l e rm s m av.toArray below meth c s.heap [] 0 0 (MQ below QQ av.toArray s 0 0 (q_reg X)) (F0 m 0 ls [])) :
    Met l y (q_ws y cc mL ret) rm (q_P X σ av) Qc 0 0 (q_reg X) :=
  q_met n hy ho hlen (body Qc rfl)
section QC
variable {p : Program} {l : Launch} {e : Env} {R : Room} {s : State} {m : MethodId} {args : Array Value} {below : List Frame} {meth : Method} {c : Code} {H : Heap} {locs : List Loc} {cells slots : Nat} {Q : State → Prop} {cc : ByteArray} {own : String} {X : XW} {n n' : Nat} {σ0 σ : ST} {H0 : Heap} {pc : Nat} {ls : Array Slot} {rest st : List Value} {a : Array Value}
theorem q_I.S (hI : q_I X n σ0 H0 locs σ H) : va_S (q_reg X) H0 H locs := hI.2.2.2.2.1
theorem q_I.K (hI : q_I X n σ0 H0 locs σ H) : q_K n X σ0 σ := hI.2.2.2.2.2
theorem q_I.post (hI : q_I X n σ0 H0 locs σ H) : q_Post X n σ0 σ H := ⟨hI.2.1, hI.2.2.1, hI.2.2.2.1, hI.2.2.2.2.2⟩
/-- returns -/
theorem q_reti (E : q_E p c cc s m args own X) (hr : meth.sig.returnType = some .int) (hlk : meth.locks = false) (hI : q_I X n σ0 s.heap locs σ H) {post : Int32 → ST → Prop} {v : Int32} (hp : post v σ) (hdg : decode cc pc = .ok (.ireturn, 1)) : W p l e R s m args below meth c H locs cells slots (MQ below (q_Qi X n σ0 post) args s cells slots (q_reg X)) (F0 m pc ls [.int v]) :=
  W.iret E.1 E.2.1 hr (fun t ht _ => ⟨⟨v, σ, rfl, hp, by show q_Post X n σ0 σ t.heap; rw [ht]; exact hI.post⟩, hI.S.F ht⟩) hI.S.2.2 hdg hlk
theorem q_retz (E : q_E p c cc s m args own X) (hr : meth.sig.returnType = some .boolean) (hlk : meth.locks = false) (hI : q_I X n σ0 s.heap locs σ H) {post : Int32 → ST → Prop} {v : Int32} (h01 : 0 ≤ v.toInt ∧ v.toInt ≤ 1) (hp : post v σ) (hdg : decode cc pc = .ok (.ireturn, 1)) : W p l e R s m args below meth c H locs cells slots (MQ below (q_Qi X n σ0 post) args s cells slots (q_reg X)) (F0 m pc ls [.int v]) :=
  W.zret E.1 E.2.1 hr (q_nar0 (Or.inr ⟨rfl, h01⟩)).1 (fun t ht _ => ⟨⟨v, σ, rfl, hp, by show q_Post X n σ0 σ t.heap; rw [ht]; exact hI.post⟩, hI.S.F ht⟩) hI.S.2.2 hdg hlk
theorem q_retl (E : q_E p c cc s m args own X) (hr : meth.sig.returnType = some .long) (hlk : meth.locks = false) (hI : q_I X n σ0 s.heap locs σ H) {post : Int64 → ST → Prop} {v : Int64} (hp : post v σ) (hdg : decode cc pc = .ok (.lreturn, 1)) : W p l e R s m args below meth c H locs cells slots (MQ below (q_Ql X n σ0 post) args s cells slots (q_reg X)) (F0 m pc ls [.long v]) :=
  W.lret E.1 E.2.1 hr (fun t ht _ => ⟨⟨v, σ, rfl, hp, by show q_Post X n σ0 σ t.heap; rw [ht]; exact hI.post⟩, hI.S.F ht⟩) hI.S.2.2 hdg hlk
theorem q_retv (E : q_E p c cc s m args own X) (hr : meth.sig.returnType = none) (hlk : meth.locks = false) (hI : q_I X n σ0 s.heap locs σ H) {post : ST → Prop} (hp : post σ) (hdg : decode cc pc = .ok (.return_, 1)) : W p l e R s m args below meth c H locs cells slots (MQ below (q_Qv X n σ0 post) args s cells slots (q_reg X)) (F0 m pc ls []) :=
  W.vret E.1 E.2.1 hr (fun t ht _ => ⟨⟨σ, rfl, hp, by show q_Post X n σ0 σ t.heap; rw [ht]; exact hI.post⟩, hI.S.F ht⟩) hI.S.2.2 hdg hlk
theorem q_retq (E : q_E p c cc s m args own X) {nm : String} (hr : meth.sig.returnType = some (.object nm)) (hlk : meth.locks = false) (hI : q_I X n σ0 s.heap locs σ H) {post : Option Nat → ST → Prop} {r : Option Nat} {v : Value} (hv : v = va_rf r) (hp : post r σ) (hdg : decode cc pc = .ok (.areturn, 1)) : W p l e R s m args below meth c H locs cells slots (MQ below (q_Qq X n σ0 post) args s cells slots (q_reg X)) (F0 m pc ls [v]) := by
  subst hv
  exact W.aret E.1 E.2.1 hr (Or.inl ⟨_, rfl⟩) (va_rf_or r) (fun t ht _ => ⟨⟨r, σ, rfl, hp, by show q_Post X n σ0 σ t.heap; rw [ht]; exact hI.post⟩, hI.S.F ht⟩) hI.S.2.2 hdg hlk
/-- calls -/
theorem q_fix {nL : Nat} (E : q_E p c cc s m args own X) (hml : c.maxLocals = nL) : CallFix p m c cc nL s args q_tbl own := ⟨E.1, E.2.1, hml, E.2.2.1, E.2.2.2.1⟩
theorem q_preS (E : q_E p c cc s m args own X) (hI : q_I X n σ0 s.heap locs σ H) (As : List Value) : PreS s H (q_P X σ As) As :=
  ⟨q_blind, fun U hU hW => ⟨rfl, hI.1, by rw [hU]; exact hI.2.1, hI.2.2.1, hI.2.2.2.1, q_KX.warm hW E.2.2.2.2.1, by rw [hU]; exact q_SW.kept hW.alike E.2.2.2.2.2 hI.S.2.1⟩⟩
theorem q_preV (E : q_E p c cc s m args own X) (hI : q_I X n σ0 s.heap locs σ H) (As : List Value) {b k ci N : Nat} {C : String} {T : u_T} (hb : q_kd X b = k) (hk : k = ci + 1 ∧ k < 20) (hc : vwCl[ci]? = some (C, T, N)) : PreV s H C b (q_P X σ (.ref b :: As)) As := by
  refine ⟨q_blind, ?_, (q_preS E hI (.ref b :: As)).2⟩
  obtain ⟨cell, q1, q2, q3, q4⟩ := q_obj hI hb hk hc
  obtain ⟨hS, hfc, -⟩ := E.2.2.2.2.1.1.1 ci _ hc
  exact ⟨cell, q1, by rw [q3]; rfl, by rw [q2]; exact hfc⟩
theorem q_runV (E : q_E p c cc s m args own X) (hml : c.maxLocals = ls.size) (hI : q_I X n σ0 s.heap locs σ H) {As : List Value} {b k ci N index mL na f w : Nat} {C : String} {T : u_T} {y : MethodName} {bytes : ByteArray} {ret : Option FieldType} {Qc : Array Value → State → Outcome → State → Prop}
    (hM : Met l y (q_ws y bytes mL ret) (q_rm f w) (q_P X σ (.ref b :: As)) Qc 0 0 (q_reg X)) (ok : q_okV own index C y bytes mL ret na) (hb : q_kd X b = k) (hk : k = ci + 1 ∧ k < 20) (hc : vwCl[ci]? = some (C, T, N)) (hn : As.length = na) (hR : f + 1 ≤ R.frames ∧ 8 + (mL + 11) + w ≤ R.locals) (hcs : cells ≤ R.cells ∧ slots ≤ R.slots)
    (hst : st = As.reverse ++ .ref b :: rest) (hW : (rest.map fun v => v.category).sum ≤ 8) (hdg : decode cc pc = .ok (.invokevirtual index, 3)) :
    va_Run p l e R s m args below meth c H locs cells slots 0 0 (F0 m pc ls st) rest (Qc (Value.ref b :: As).toArray) (q_reg X) := by
  obtain ⟨o1, o2, o3, o4, o5, o6⟩ := ok
  refine va_runV (nL := ls.size) (q_fix E hml) hM (cwV na E.2.2.2.1 (q_goodIn fun w hw => ?_) rfl rfl rfl o6 hR) (q_preV E hI As hb hk hc) rfl hn rfl hst (lv_room hW) hdg hcs
  unfold wsV at hw
  rcases List.mem_append.mp hw with h | h
  · simp only [List.mem_cons, List.not_mem_nil, or_false] at h
    rcases h with rfl | rfl | rfl | rfl
    · exact o1
    · exact o2
    · exact o3
    · exact o4
  · rcases List.mem_cons.mp h with rfl | h
    · exact o5
    · exact h
theorem q_runS (E : q_E p c cc s m args own X) (hml : c.maxLocals = ls.size) (hI : q_I X n σ0 s.heap locs σ H) {As : List Value} {index mL na f w : Nat} {y : MethodName} {bytes : ByteArray} {ret : Option FieldType} {Qc : Array Value → State → Outcome → State → Prop}
    (hM : Met l y (q_ws y bytes mL ret) (q_rm f w) (q_P X σ As) Qc 0 0 (q_reg X)) (ok : q_okS own index y bytes mL ret na) (hn : As.length = na) (hR : f + 1 ≤ R.frames ∧ 8 + (mL + 11) + w ≤ R.locals) (hcs : cells ≤ R.cells ∧ slots ≤ R.slots)
    (hst : st = As.reverse ++ rest) (hW : (rest.map fun v => v.category).sum ≤ 8) (hdg : decode cc pc = .ok (.invokestatic index, 3)) :
    va_Run p l e R s m args below meth c H locs cells slots 0 0 (F0 m pc ls st) rest (Qc As.toArray) (q_reg X) := by
  obtain ⟨o1, o2, o3, o4, o5⟩ := ok
  refine va_runS (nL := ls.size) (q_fix E hml) hM (va_cwS na E.2.2.2.1 (q_goodIn fun w hw => ?_) rfl rfl rfl o5 hR) (q_preS E hI As) rfl hn rfl hst (lv_room hW) hdg hcs
  unfold va_wsS at hw
  rcases List.mem_append.mp hw with h | h
  · simp only [List.mem_cons, List.not_mem_nil, or_false] at h
    rcases h with rfl | rfl | rfl
    · exact o1
    · exact o2
    · exact o3
  · rcases List.mem_cons.mp h with rfl | h
    · exact o4
    · exact h
theorem q_ci {n2 : Nat} {post : Int32 → ST → Prop} (hr : va_Run p l e R s m args below meth c H locs cells slots 0 0 (F0 m pc ls st) rest (q_Qi X n2 σ post a) (q_reg X)) (hI : q_I X n σ0 H0 locs σ H) (hle : n ≤ n2)
    (kk : ∀ (r : Int32) (σ1 : ST) (H1 : Heap) (locs1 : List Loc), post r σ1 → q_K n2 X σ σ1 → q_I X n σ0 H0 locs1 σ1 H1 → W p l e R s m args below meth c H1 locs1 cells slots Q (F0 m (pc + 3) ls (.int r :: rest))) : W p l e R s m args below meth c H locs cells slots Q (F0 m pc ls st) := by
  refine va_calli hr hI.S (fun q _ h => h) (fun q h => h) (fun r u t H1 locs1 ht hal hp hB hz hk hS => ?_)
  obtain ⟨b1, b2, b3, b4⟩ := hB
  rw [ht] at b1
  exact kk r u H1 locs1 hp b4 ⟨hI.1, b1, b2, b3, hS, hI.K.tr (b4.le hle)⟩
theorem q_cl_ {n2 : Nat} {post : Int64 → ST → Prop} (hr : va_Run p l e R s m args below meth c H locs cells slots 0 0 (F0 m pc ls st) rest (q_Ql X n2 σ post a) (q_reg X)) (hI : q_I X n σ0 H0 locs σ H) (hle : n ≤ n2)
    (kk : ∀ (r : Int64) (σ1 : ST) (H1 : Heap) (locs1 : List Loc), post r σ1 → q_K n2 X σ σ1 → q_I X n σ0 H0 locs1 σ1 H1 → W p l e R s m args below meth c H1 locs1 cells slots Q (F0 m (pc + 3) ls (.long r :: rest))) : W p l e R s m args below meth c H locs cells slots Q (F0 m pc ls st) := by
  refine va_calll hr hI.S (fun q _ h => h) (fun q h => h) (fun r u t H1 locs1 ht hal hp hB hz hk hS => ?_)
  obtain ⟨b1, b2, b3, b4⟩ := hB
  rw [ht] at b1
  exact kk r u H1 locs1 hp b4 ⟨hI.1, b1, b2, b3, hS, hI.K.tr (b4.le hle)⟩
theorem q_cv {n2 : Nat} {post : ST → Prop} (hr : va_Run p l e R s m args below meth c H locs cells slots 0 0 (F0 m pc ls st) rest (q_Qv X n2 σ post a) (q_reg X)) (hI : q_I X n σ0 H0 locs σ H) (hle : n ≤ n2)
    (kk : ∀ (σ1 : ST) (H1 : Heap) (locs1 : List Loc), post σ1 → q_K n2 X σ σ1 → q_I X n σ0 H0 locs1 σ1 H1 → W p l e R s m args below meth c H1 locs1 cells slots Q (F0 m (pc + 3) ls rest)) : W p l e R s m args below meth c H locs cells slots Q (F0 m pc ls st) := by
  refine va_callv hr hI.S (fun q _ h => h) (fun q h => h) (fun u t H1 locs1 ht hal hp hB hz hk hS => ?_)
  obtain ⟨b1, b2, b3, b4⟩ := hB
  rw [ht] at b1
  exact kk u H1 locs1 hp b4 ⟨hI.1, b1, b2, b3, hS, hI.K.tr (b4.le hle)⟩
theorem q_cq {n2 : Nat} {post : Option Nat → ST → Prop} (hr : va_Run p l e R s m args below meth c H locs cells slots 0 0 (F0 m pc ls st) rest (q_Qq X n2 σ post a) (q_reg X)) (hI : q_I X n σ0 H0 locs σ H) (hle : n ≤ n2)
    (kk : ∀ (r : Option Nat) (σ1 : ST) (H1 : Heap) (locs1 : List Loc), post r σ1 → q_K n2 X σ σ1 → q_I X n σ0 H0 locs1 σ1 H1 → W p l e R s m args below meth c H1 locs1 cells slots Q (F0 m (pc + 3) ls (va_rf r :: rest))) : W p l e R s m args below meth c H locs cells slots Q (F0 m pc ls st) := by
  refine va_callq hr hI.S (fun q _ h => h) (fun q h => h) (fun r u t H1 locs1 ht hal hp hB hz hk hS => ?_)
  obtain ⟨b1, b2, b3, b4⟩ := hB
  rw [ht] at b1
  exact kk r u H1 locs1 hp b4 ⟨hI.1, b1, b2, b3, hS, hI.K.tr (b4.le hle)⟩
end QC
end
/-! FROM 04b.calls.lean.txt -/
section
/-- a static method of a nest mate -/
def q_okN (own : String) (index : Nat) (host : String) (y : MethodName) (bytes : ByteArray) (mL : Nat) (ret : Option FieldType) (n : Nat) : Prop :=
  (own, index, y, host) ∈ q_nest ∧ Cond.static y ∈ q_tbl ∧ Cond.initialized y.cls ∈ q_tbl ∧ Cond.code y bytes mL ret ∈ q_tbl ∧ (y.cls ≠ "java/lang/invoke/MethodHandle" ∧ y.cls ≠ "java/lang/invoke/VarHandle" ∧ (parseMethodDescriptor y.desc).map (fun d => d.parameters.length) = some n)
/-- a private method is what its own call selects, of a receiver of a subclass too -/
theorem q_selpriv {C : String} {x2 y : MethodName} {s : State} {args : Array Value} (h2 : (Cond.selects C x2 x2).before args s = true) (hcc : x2.cls = y.cls) (hy : y.cls ≠ "java/lang/invoke/MethodHandle" ∧ y.cls ≠ "java/lang/invoke/VarHandle") (hpriv : (Cond.privateMethod y).before args s = true) (hinst : (Cond.instanceMethod y).before args s = true) : (Cond.selects C y y).before args s = true := by
  obtain ⟨c, r, m2, hc, -, hn2, -, kM, hkM, hni⟩ := Cond.selects_spec h2
  obtain ⟨mk, methM, hnamed, hmethM, -, -⟩ := Cond.instanceMethod_spec hinst
  have hfound : s.methodFound? y.cls y.name y.desc = some mk := State.methodFound?_of_named hnamed hy
  have hcls : mk.cls = m2.cls := Option.some.inj ((findClass_of_methodNamed hnamed).symm.trans (by rw [← hcc]; exact findClass_of_methodNamed hn2))
  have hsel : selectMethod {} s.vm c mk = .method mk := selectMethod_private hmethM (Cond.privateMethod_at hpriv mk methM hnamed hmethM)
  first
  | (have e : (Cond.selects C y y).before args s = ((match s.vm.findClass C, s.methodFound? y.cls y.name y.desc, s.methodNamed? y with
      | some c, some r, some m => some (match selectMethod {} s.vm c r with
        | .method m' => decide (m' = m) && (s.vm.classes[m.cls]?).any (!·.isInterface)
        | _ => false)
      | _, _, _ => none) == some true) := rfl
     rw [e]
     simp only [hc, hfound, hnamed, hsel, hcls, hkM]
     simp
     exact hni)
  | (simp only [Cond.before, Cond.holds, Cond.value, hc, hfound, hnamed, hsel, hcls, hkM]
     simp
     exact hni)
/-- an inherited method y, called by the name x, of a receiver of class C -/
def q_okU2 (own : String) (index : Nat) (C owner : String) (x y : MethodName) (bytes : ByteArray) (mL : Nat) (ret : Option FieldType) (n : Nat) : Prop :=
  Cond.methodLink own index x ∈ q_tbl ∧ Cond.sameMethod x.cls owner x.name x.desc ∈ q_tbl ∧ Cond.selects C x y ∈ q_tbl ∧ Cond.instanceMethod y ∈ q_tbl ∧ Cond.initialized y.cls ∈ q_tbl ∧ Cond.code y bytes mL ret ∈ q_tbl ∧ (owner ≠ "java/lang/invoke/MethodHandle" ∧ owner ≠ "java/lang/invoke/VarHandle" ∧ (parseMethodDescriptor x.desc).map (fun d => d.parameters.length) = some n) ∧ y = ⟨owner, x.name, x.desc⟩
section QU
variable {p : Program} {l : Launch} {e : Env} {R : Room} {s : State} {m : MethodId} {args : Array Value} {below : List Frame} {meth : Method} {c : Code} {H : Heap} {locs : List Loc} {cells slots : Nat} {cc : ByteArray} {own : String} {X : XW} {n : Nat} {σ0 σ : ST} {pc : Nat} {ls : Array Slot} {rest st : List Value}
theorem q_pay (E : q_E p c cc s m args own X) {y : MethodName} {bytes : ByteArray} {mL : Nat} {ret : Option FieldType} (h : Cond.code y bytes mL ret ∈ q_tbl) : ∀ w ∈ q_ws y bytes mL ret, ∀ (a' : Array Value) (U : State), s.WarmedH U.vm → w.before a' U = true :=
  pay_in E.2.2.2.1 (q_goodIn fun w hw => (List.mem_cons.mp hw).elim (fun e => by rw [e]; exact h) id)
theorem q_runU (E : q_E p c cc s m args own X) (hml : c.maxLocals = ls.size) (hI : q_I X n σ0 s.heap locs σ H) {As : List Value} {b k ci N index mL na f w : Nat} {C owner : String} {T : u_T} {x y : MethodName} {bytes : ByteArray} {ret : Option FieldType} {Qc : Array Value → State → Outcome → State → Prop}
    (hM : Met l y (q_ws y bytes mL ret) (q_rm f w) (q_P X σ (.ref b :: As)) Qc 0 0 (q_reg X)) (ok : q_okU2 own index C owner x y bytes mL ret na) (hb : q_kd X b = k) (hk : k = ci + 1 ∧ k < 20) (hc : vwCl[ci]? = some (C, T, N)) (hn : As.length = na) (hR : f + 1 ≤ R.frames ∧ 8 + (mL + 11) + w ≤ R.locals) (hcs : cells ≤ R.cells ∧ slots ≤ R.slots)
    (hst : st = As.reverse ++ .ref b :: rest) (hW : (rest.map fun v => v.category).sum ≤ 8) (hdg : decode cc pc = .ok (.invokevirtual index, 3)) :
    va_Run p l e R s m args below meth c H locs cells slots 0 0 (F0 m pc ls st) rest (Qc (Value.ref b :: As).toArray) (q_reg X) := by
  obtain ⟨o1, o2, o3, o4, o5, o6, o7, o8⟩ := ok
  have hts := E.2.2.2.1
  have hsel : (Cond.selects C x y).before args s = true := hts _ o3
  have cw : va_CU R s args own C owner index x y bytes mL ret (q_ws y bytes mL ret) (q_rm f w) 0 0 na := by
    refine ⟨⟨rfl, rfl, hR.1, hR.2, q_pay E o6, List.mem_cons_self⟩, hts _ o6, hts _ o5, ⟨o7.1, o7.2.1⟩, fun sig h => ?_, hts _ o1, hts _ o2, ?_, hsel, hts _ o4⟩
    · have h2 := o7.2.2
      rw [h] at h2
      exact (Option.some.inj h2).symm
    · rw [← o8]
      exact va_Decl.of (hts _ o4) (hts _ o6)
  exact va_runU (nL := ls.size) (q_fix E hml) hM cw (q_preV E hI As hb hk hc) rfl hn rfl hst (lv_room hW) hdg hcs
/-- of a reader, of whichever of the two classes -/
theorem q_runR (E : q_E p c cc s m args own X) (hml : c.maxLocals = ls.size) (hI : q_I X n σ0 s.heap locs σ H) {As : List Value} {b index mL na f w : Nat} {owner : String} {x y : MethodName} {bytes : ByteArray} {ret : Option FieldType} {Qc : Array Value → State → Outcome → State → Prop}
    (hM : Met l y (q_ws y bytes mL ret) (q_rm f w) (q_P X σ (.ref b :: As)) Qc 0 0 (q_reg X)) (ok : q_okU2 own index RX4 owner x y bytes mL ret na ∧ q_okU2 own index RX9 owner x y bytes mL ret na) (hb : q_kd X b = 4 ∨ q_kd X b = 9) (hn : As.length = na) (hR : f + 1 ≤ R.frames ∧ 8 + (mL + 11) + w ≤ R.locals) (hcs : cells ≤ R.cells ∧ slots ≤ R.slots)
    (hst : st = As.reverse ++ .ref b :: rest) (hW : (rest.map fun v => v.category).sum ≤ 8) (hdg : decode cc pc = .ok (.invokevirtual index, 3)) :
    va_Run p l e R s m args below meth c H locs cells slots 0 0 (F0 m pc ls st) rest (Qc (Value.ref b :: As).toArray) (q_reg X) := by
  rcases hb with hb | hb
  · exact q_runU E hml hI hM ok.1 hb ⟨rfl, by decide⟩ (show vwCl[3]? = some (RX4, TX4, 11) from rfl) hn hR hcs hst hW hdg
  · exact q_runU E hml hI hM ok.2 hb ⟨rfl, by decide⟩ (show vwCl[8]? = some (RX9, TX9, 12) from rfl) hn hR hcs hst hW hdg
theorem q_runN (E : q_E p c cc s m args own X) (hml : c.maxLocals = ls.size) (hI : q_I X n σ0 s.heap locs σ H) {As : List Value} {index mL na f w : Nat} {host : String} {y : MethodName} {bytes : ByteArray} {ret : Option FieldType} {Qc : Array Value → State → Outcome → State → Prop}
    (hM : Met l y (q_ws y bytes mL ret) (q_rm f w) (q_P X σ As) Qc 0 0 (q_reg X)) (ok : q_okN own index host y bytes mL ret na) (hn : As.length = na) (hR : f + 1 ≤ R.frames ∧ 8 + (mL + 11) + w ≤ R.locals) (hcs : cells ≤ R.cells ∧ slots ≤ R.slots)
    (hst : st = As.reverse ++ rest) (hW : (rest.map fun v => v.category).sum ≤ 8) (hdg : decode cc pc = .ok (.invokestatic index, 3)) :
    va_Run p l e R s m args below meth c H locs cells slots 0 0 (F0 m pc ls st) rest (Qc As.toArray) (q_reg X) := by
  obtain ⟨o1, o2, o3, o4, o5⟩ := ok
  have hl : va_Nw (.methodLinkNest own index y host) s := E.2.2.2.2.1.2.1 _ o1
  refine va_runSN (nL := ls.size) (q_fix E hml) hM ⟨va_cnB na E.2.2.2.1 (q_goodIn fun w hw => (List.mem_cons.mp hw).elim (fun e => by rw [e]; exact o4) id) rfl rfl rfl hl (E.2.2.2.1 _ o3) o5 hR, E.2.2.2.1 _ o2, trivial⟩ (q_preS E hI As) rfl hn rfl hst (lv_room hW) hdg hcs
end QU
end
/-! FROM 04c.calls.lean.txt -/
section
theorem q_inc {x z : Int32} (e : z = x + 1) (h : x.toInt < 2147483647) : z.toInt = x.toInt + 1 := by
  have h0 := q_rng x
  have h1 : (1 : Int32).toInt = 1 := rfl
  have h2 := q_add e (by rw [h1]; omega) (by rw [h1]; omega)
  rw [h2, h1]
theorem q_dec {x z : Int32} (e : z = x + (-1)) (h : -2147483648 < x.toInt) : z.toInt = x.toInt - 1 := by
  have h0 := q_rng x
  have h1 : (-1 : Int32).toInt = -1 := rfl
  have h2 := q_add e (by rw [h1]; omega) (by rw [h1]; omega)
  rw [h2, h1]
  omega
section QT
variable {p : Program} {l : Launch} {e : Env} {R : Room} {s : State} {m : MethodId} {args : Array Value} {below : List Frame} {meth : Method} {c : Code} {H : Heap} {locs : List Loc} {cells slots : Nat} {cc : ByteArray} {own : String} {X : XW} {n : Nat} {σ0 σ : ST} {pc : Nat} {ls : Array Slot} {rest st : List Value}
/-- a call on a String constant -/
theorem q_runT (E : q_E p c cc s m args own X) (hml : c.maxLocals = ls.size) (hI : q_I X n σ0 s.heap locs σ H) {As : List Value} {i index mL na f w : Nat} {y : MethodName} {bytes : ByteArray} {ret : Option FieldType} {Qc : Array Value → State → Outcome → State → Prop}
    (hM : Met l y (q_ws y bytes mL ret) (q_rm f w) (q_P X σ (.ref (q_sk X i) :: As)) Qc 0 0 (q_reg X)) (ok : q_okV own index "java/lang/String" y bytes mL ret na) (hi : i < 22) (hn : As.length = na) (hR : f + 1 ≤ R.frames ∧ 8 + (mL + 11) + w ≤ R.locals) (hcs : cells ≤ R.cells ∧ slots ≤ R.slots)
    (hst : st = As.reverse ++ .ref (q_sk X i) :: rest) (hW : (rest.map fun v => v.category).sum ≤ 8) (hdg : decode cc pc = .ok (.invokevirtual index, 3)) :
    va_Run p l e R s m args below meth c H locs cells slots 0 0 (F0 m pc ls st) rest (Qc (Value.ref (q_sk X i) :: As).toArray) (q_reg X) := by
  obtain ⟨o1, o2, o3, o4, o5, o6⟩ := ok
  refine va_runV (nL := ls.size) (q_fix E hml) hM (cwV na E.2.2.2.1 (q_goodIn fun w hw => ?_) rfl rfl rfl o6 hR) ⟨q_blind, vk_recv E.2.2.2.2.2.1 hi hI.S, (q_preS E hI (.ref (q_sk X i) :: As)).2⟩ rfl hn rfl hst (lv_room hW) hdg hcs
  unfold wsV at hw
  rcases List.mem_append.mp hw with h | h
  · simp only [List.mem_cons, List.not_mem_nil, or_false] at h
    rcases h with rfl | rfl | rfl | rfl
    · exact o1
    · exact o2
    · exact o3
    · exact o4
  · rcases List.mem_cons.mp h with rfl | h
    · exact o5
    · exact h
end QT
theorem q_in_all {C : String} {T : u_T} {N : Nat} (h : ∀ k, k < N → u_lay C T k ∈ q_tbl) : ∀ w ∈ u_ws C T N, w ∈ q_tbl := fun w hw => by
  obtain ⟨k, hk, e⟩ := List.mem_map.mp hw
  rw [← e]
  exact h k (List.mem_range.mp hk)
theorem q_inX0 : ∀ w ∈ u_ws RX0 TX0 15, w ∈ q_tbl := q_in_all (fun k hk => match k, hk with
  | 0, _ => q_in_t2 (i := 26) (by first | rfl | decide +kernel) rfl
  | 1, _ => q_in_t2 (i := 28) (by first | rfl | decide +kernel) rfl
  | 2, _ => q_in_t2 (i := 30) (by first | rfl | decide +kernel) rfl
  | 3, _ => q_in_t2 (i := 32) (by first | rfl | decide +kernel) rfl
  | 4, _ => q_in_t2 (i := 34) (by first | rfl | decide +kernel) rfl
  | 5, _ => q_in_t2 (i := 36) (by first | rfl | decide +kernel) rfl
  | 6, _ => q_in_t2 (i := 38) (by first | rfl | decide +kernel) rfl
  | 7, _ => q_in_t2 (i := 40) (by first | rfl | decide +kernel) rfl
  | 8, _ => q_in_t2 (i := 42) (by first | rfl | decide +kernel) rfl
  | 9, _ => q_in_t2 (i := 44) (by first | rfl | decide +kernel) rfl
  | 10, _ => q_in_t2 (i := 46) (by first | rfl | decide +kernel) rfl
  | 11, _ => q_in_t2 (i := 48) (by first | rfl | decide +kernel) rfl
  | 12, _ => q_in_t2 (i := 50) (by first | rfl | decide +kernel) rfl
  | 13, _ => q_in_t2 (i := 52) (by first | rfl | decide +kernel) rfl
  | 14, _ => q_in_t2 (i := 54) (by first | rfl | decide +kernel) rfl
  | k + 15, hk => absurd hk (by omega))
theorem q_inX1 : ∀ w ∈ u_ws RX1 TX1 7, w ∈ q_tbl := q_in_all (fun k hk => match k, hk with
  | 0, _ => q_in_t1 (i := 130) (by first | rfl | decide +kernel) rfl
  | 1, _ => q_in_t1 (i := 132) (by first | rfl | decide +kernel) rfl
  | 2, _ => q_in_t1 (i := 134) (by first | rfl | decide +kernel) rfl
  | 3, _ => q_in_t1 (i := 136) (by first | rfl | decide +kernel) rfl
  | 4, _ => q_in_t1 (i := 138) (by first | rfl | decide +kernel) rfl
  | 5, _ => q_in_t1 (i := 140) (by first | rfl | decide +kernel) rfl
  | 6, _ => q_in_t1 (i := 142) (by first | rfl | decide +kernel) rfl
  | k + 7, hk => absurd hk (by omega))
theorem q_inX2 : ∀ w ∈ u_ws RX2 TX2 6, w ∈ q_tbl := q_in_all (fun k hk => match k, hk with
  | 0, _ => q_in_t1 (i := 166) (by first | rfl | decide +kernel) rfl
  | 1, _ => q_in_t1 (i := 168) (by first | rfl | decide +kernel) rfl
  | 2, _ => q_in_t1 (i := 170) (by first | rfl | decide +kernel) rfl
  | 3, _ => q_in_t1 (i := 172) (by first | rfl | decide +kernel) rfl
  | 4, _ => q_in_t1 (i := 174) (by first | rfl | decide +kernel) rfl
  | 5, _ => q_in_t1 (i := 176) (by first | rfl | decide +kernel) rfl
  | k + 6, hk => absurd hk (by omega))
theorem q_inX4 : ∀ w ∈ u_ws RX4 TX4 11, w ∈ q_tbl := q_in_all (fun k hk => match k, hk with
  | 0, _ => q_in_t2 (i := 137) (by first | rfl | decide +kernel) rfl
  | 1, _ => q_in_t2 (i := 138) (by first | rfl | decide +kernel) rfl
  | 2, _ => q_in_t2 (i := 139) (by first | rfl | decide +kernel) rfl
  | 3, _ => q_in_t2 (i := 140) (by first | rfl | decide +kernel) rfl
  | 4, _ => q_in_t2 (i := 141) (by first | rfl | decide +kernel) rfl
  | 5, _ => q_in_t2 (i := 142) (by first | rfl | decide +kernel) rfl
  | 6, _ => q_in_t2 (i := 143) (by first | rfl | decide +kernel) rfl
  | 7, _ => q_in_t2 (i := 144) (by first | rfl | decide +kernel) rfl
  | 8, _ => q_in_t2 (i := 131) (by first | rfl | decide +kernel) rfl
  | 9, _ => q_in_t2 (i := 133) (by first | rfl | decide +kernel) rfl
  | 10, _ => q_in_t2 (i := 135) (by first | rfl | decide +kernel) rfl
  | k + 11, hk => absurd hk (by omega))
theorem q_inX5 : ∀ w ∈ u_ws RX5 TX5 1, w ∈ q_tbl := q_in_all (fun k hk => match k, hk with
  | 0, _ => q_in_t1 (i := 52) (by first | rfl | decide +kernel) rfl
  | k + 1, hk => absurd hk (by omega))
theorem q_inX6 : ∀ w ∈ u_ws RX6 TX6 8, w ∈ q_tbl := q_in_all (fun k hk => match k, hk with
  | 0, _ => q_in_t1 (i := 84) (by first | rfl | decide +kernel) rfl
  | 1, _ => q_in_t1 (i := 86) (by first | rfl | decide +kernel) rfl
  | 2, _ => q_in_t1 (i := 88) (by first | rfl | decide +kernel) rfl
  | 3, _ => q_in_t1 (i := 90) (by first | rfl | decide +kernel) rfl
  | 4, _ => q_in_t1 (i := 92) (by first | rfl | decide +kernel) rfl
  | 5, _ => q_in_t1 (i := 94) (by first | rfl | decide +kernel) rfl
  | 6, _ => q_in_t1 (i := 96) (by first | rfl | decide +kernel) rfl
  | 7, _ => q_in_t1 (i := 98) (by first | rfl | decide +kernel) rfl
  | k + 8, hk => absurd hk (by omega))
theorem q_inX7 : ∀ w ∈ u_ws RX7 TX7 8, w ∈ q_tbl := q_in_all (fun k hk => match k, hk with
  | 0, _ => q_in_t2 (i := 168) (by first | rfl | decide +kernel) rfl
  | 1, _ => q_in_t2 (i := 170) (by first | rfl | decide +kernel) rfl
  | 2, _ => q_in_t2 (i := 172) (by first | rfl | decide +kernel) rfl
  | 3, _ => q_in_t2 (i := 174) (by first | rfl | decide +kernel) rfl
  | 4, _ => q_in_t2 (i := 176) (by first | rfl | decide +kernel) rfl
  | 5, _ => q_in_t2 (i := 178) (by first | rfl | decide +kernel) rfl
  | 6, _ => q_in_t2 (i := 180) (by first | rfl | decide +kernel) rfl
  | 7, _ => q_in_t2 (i := 182) (by first | rfl | decide +kernel) rfl
  | k + 8, hk => absurd hk (by omega))
theorem q_inX8 : ∀ w ∈ u_ws RX8 TX8 8, w ∈ q_tbl := q_in_all (fun k hk => match k, hk with
  | 0, _ => q_in_t1 (i := 209) (by first | rfl | decide +kernel) rfl
  | 1, _ => q_in_t1 (i := 211) (by first | rfl | decide +kernel) rfl
  | 2, _ => q_in_t1 (i := 213) (by first | rfl | decide +kernel) rfl
  | 3, _ => q_in_t1 (i := 215) (by first | rfl | decide +kernel) rfl
  | 4, _ => q_in_t1 (i := 217) (by first | rfl | decide +kernel) rfl
  | 5, _ => q_in_t1 (i := 219) (by first | rfl | decide +kernel) rfl
  | 6, _ => q_in_t1 (i := 221) (by first | rfl | decide +kernel) rfl
  | 7, _ => q_in_t1 (i := 223) (by first | rfl | decide +kernel) rfl
  | k + 8, hk => absurd hk (by omega))
theorem q_inX9 : ∀ w ∈ u_ws RX9 TX9 12, w ∈ q_tbl := q_in_all (fun k hk => match k, hk with
  | 0, _ => q_in_t2 (i := 100) (by first | rfl | decide +kernel) rfl
  | 1, _ => q_in_t2 (i := 102) (by first | rfl | decide +kernel) rfl
  | 2, _ => q_in_t2 (i := 104) (by first | rfl | decide +kernel) rfl
  | 3, _ => q_in_t2 (i := 106) (by first | rfl | decide +kernel) rfl
  | 4, _ => q_in_t2 (i := 108) (by first | rfl | decide +kernel) rfl
  | 5, _ => q_in_t2 (i := 110) (by first | rfl | decide +kernel) rfl
  | 6, _ => q_in_t2 (i := 112) (by first | rfl | decide +kernel) rfl
  | 7, _ => q_in_t2 (i := 114) (by first | rfl | decide +kernel) rfl
  | 8, _ => q_in_t2 (i := 92) (by first | rfl | decide +kernel) rfl
  | 9, _ => q_in_t2 (i := 94) (by first | rfl | decide +kernel) rfl
  | 10, _ => q_in_t2 (i := 96) (by first | rfl | decide +kernel) rfl
  | 11, _ => q_in_t2 (i := 98) (by first | rfl | decide +kernel) rfl
  | k + 12, hk => absurd hk (by omega))
theorem q_inX10 : ∀ w ∈ u_ws RX10 TX10 3, w ∈ q_tbl := q_in_all (fun k hk => match k, hk with
  | 0, _ => q_in_t2 (i := 194) (by first | rfl | decide +kernel) rfl
  | 1, _ => q_in_t2 (i := 196) (by first | rfl | decide +kernel) rfl
  | 2, _ => q_in_t2 (i := 198) (by first | rfl | decide +kernel) rfl
  | k + 3, hk => absurd hk (by omega))
theorem q_inX11 : ∀ w ∈ u_ws RX11 TX11 17, w ∈ q_tbl := q_in_all (fun k hk => match k, hk with
  | 0, _ => q_in_t2 (i := 219) (by first | rfl | decide +kernel) rfl
  | 1, _ => q_in_t2 (i := 221) (by first | rfl | decide +kernel) rfl
  | 2, _ => q_in_t2 (i := 223) (by first | rfl | decide +kernel) rfl
  | 3, _ => q_in_t2 (i := 225) (by first | rfl | decide +kernel) rfl
  | 4, _ => q_in_t2 (i := 227) (by first | rfl | decide +kernel) rfl
  | 5, _ => q_in_t2 (i := 229) (by first | rfl | decide +kernel) rfl
  | 6, _ => q_in_t2 (i := 231) (by first | rfl | decide +kernel) rfl
  | 7, _ => q_in_t2 (i := 233) (by first | rfl | decide +kernel) rfl
  | 8, _ => q_in_t2 (i := 235) (by first | rfl | decide +kernel) rfl
  | 9, _ => q_in_t2 (i := 237) (by first | rfl | decide +kernel) rfl
  | 10, _ => q_in_t2 (i := 239) (by first | rfl | decide +kernel) rfl
  | 11, _ => q_in_t3 (i := 1) (by first | rfl | decide +kernel) rfl
  | 12, _ => q_in_t3 (i := 3) (by first | rfl | decide +kernel) rfl
  | 13, _ => q_in_t3 (i := 5) (by first | rfl | decide +kernel) rfl
  | 14, _ => q_in_t3 (i := 7) (by first | rfl | decide +kernel) rfl
  | 15, _ => q_in_t3 (i := 9) (by first | rfl | decide +kernel) rfl
  | 16, _ => q_in_t3 (i := 11) (by first | rfl | decide +kernel) rfl
  | k + 17, hk => absurd hk (by omega))
theorem q_inX12 : ∀ w ∈ u_ws RX12 TX12 46, w ∈ q_tbl := q_in_all (fun k hk => match k, hk with
  | 0, _ => q_in_t7 (i := 31) (by first | rfl | decide +kernel) rfl
  | 1, _ => q_in_t7 (i := 33) (by first | rfl | decide +kernel) rfl
  | 2, _ => q_in_t7 (i := 35) (by first | rfl | decide +kernel) rfl
  | 3, _ => q_in_t7 (i := 37) (by first | rfl | decide +kernel) rfl
  | 4, _ => q_in_t7 (i := 39) (by first | rfl | decide +kernel) rfl
  | 5, _ => q_in_t7 (i := 41) (by first | rfl | decide +kernel) rfl
  | 6, _ => q_in_t7 (i := 43) (by first | rfl | decide +kernel) rfl
  | 7, _ => q_in_t7 (i := 45) (by first | rfl | decide +kernel) rfl
  | 8, _ => q_in_t7 (i := 47) (by first | rfl | decide +kernel) rfl
  | 9, _ => q_in_t7 (i := 49) (by first | rfl | decide +kernel) rfl
  | 10, _ => q_in_t7 (i := 51) (by first | rfl | decide +kernel) rfl
  | 11, _ => q_in_t7 (i := 53) (by first | rfl | decide +kernel) rfl
  | 12, _ => q_in_t7 (i := 55) (by first | rfl | decide +kernel) rfl
  | 13, _ => q_in_t7 (i := 57) (by first | rfl | decide +kernel) rfl
  | 14, _ => q_in_t7 (i := 59) (by first | rfl | decide +kernel) rfl
  | 15, _ => q_in_t7 (i := 61) (by first | rfl | decide +kernel) rfl
  | 16, _ => q_in_t7 (i := 63) (by first | rfl | decide +kernel) rfl
  | 17, _ => q_in_t7 (i := 65) (by first | rfl | decide +kernel) rfl
  | 18, _ => q_in_t7 (i := 67) (by first | rfl | decide +kernel) rfl
  | 19, _ => q_in_t7 (i := 69) (by first | rfl | decide +kernel) rfl
  | 20, _ => q_in_t7 (i := 71) (by first | rfl | decide +kernel) rfl
  | 21, _ => q_in_t7 (i := 73) (by first | rfl | decide +kernel) rfl
  | 22, _ => q_in_t7 (i := 75) (by first | rfl | decide +kernel) rfl
  | 23, _ => q_in_t7 (i := 77) (by first | rfl | decide +kernel) rfl
  | 24, _ => q_in_t7 (i := 79) (by first | rfl | decide +kernel) rfl
  | 25, _ => q_in_t7 (i := 81) (by first | rfl | decide +kernel) rfl
  | 26, _ => q_in_t7 (i := 83) (by first | rfl | decide +kernel) rfl
  | 27, _ => q_in_t7 (i := 85) (by first | rfl | decide +kernel) rfl
  | 28, _ => q_in_t7 (i := 87) (by first | rfl | decide +kernel) rfl
  | 29, _ => q_in_t7 (i := 89) (by first | rfl | decide +kernel) rfl
  | 30, _ => q_in_t7 (i := 91) (by first | rfl | decide +kernel) rfl
  | 31, _ => q_in_t7 (i := 93) (by first | rfl | decide +kernel) rfl
  | 32, _ => q_in_t7 (i := 95) (by first | rfl | decide +kernel) rfl
  | 33, _ => q_in_t7 (i := 97) (by first | rfl | decide +kernel) rfl
  | 34, _ => q_in_t7 (i := 99) (by first | rfl | decide +kernel) rfl
  | 35, _ => q_in_t7 (i := 101) (by first | rfl | decide +kernel) rfl
  | 36, _ => q_in_t7 (i := 103) (by first | rfl | decide +kernel) rfl
  | 37, _ => q_in_t7 (i := 105) (by first | rfl | decide +kernel) rfl
  | 38, _ => q_in_t7 (i := 107) (by first | rfl | decide +kernel) rfl
  | 39, _ => q_in_t7 (i := 109) (by first | rfl | decide +kernel) rfl
  | 40, _ => q_in_t7 (i := 111) (by first | rfl | decide +kernel) rfl
  | 41, _ => q_in_t7 (i := 113) (by first | rfl | decide +kernel) rfl
  | 42, _ => q_in_t7 (i := 115) (by first | rfl | decide +kernel) rfl
  | 43, _ => q_in_t7 (i := 117) (by first | rfl | decide +kernel) rfl
  | 44, _ => q_in_t7 (i := 119) (by first | rfl | decide +kernel) rfl
  | 45, _ => q_in_t7 (i := 121) (by first | rfl | decide +kernel) rfl
  | k + 46, hk => absurd hk (by omega))
end
/-! FROM 04d.more.lean.txt -/
section
/-! cells kept but for those of S -/
def q_KS (S : Nat → Nat → Prop) (n : Nat) (X : XW) (σ σ' : ST) : Prop := ∀ b g, q_cl (q_kd X b) g ≤ n → ¬ S b g → σ'.1 b g = σ.1 b g
theorem q_KS.rf {S : Nat → Nat → Prop} {n : Nat} {X : XW} {σ : ST} : q_KS S n X σ σ := fun _ _ _ _ => rfl
theorem q_KS.si {S : Nat → Nat → Prop} {n : Nat} {X : XW} {σ τ τ' : ST} {a k f : Nat} {v : Int32} (h : q_KS S n X σ τ) (e : τ' = q_si τ a f v) (ha : q_kd X a = k) (hc : n < q_cl k f) : q_KS S n X σ τ' := by
  intro b g q hs
  rw [e]
  show (if b = a ∧ g = f then v else τ.1 b g) = _
  rw [if_neg]
  · exact h b g q hs
  · rintro ⟨rfl, rfl⟩
    rw [ha] at q
    omega
theorem q_KS.siS {S : Nat → Nat → Prop} {n : Nat} {X : XW} {σ τ τ' : ST} {a f : Nat} {v : Int32} (h : q_KS S n X σ τ) (e : τ' = q_si τ a f v) (hS : S a f) : q_KS S n X σ τ' := by
  intro b g q hs
  rw [e]
  show (if b = a ∧ g = f then v else τ.1 b g) = _
  rw [if_neg]
  · exact h b g q hs
  · rintro ⟨rfl, rfl⟩
    exact hs hS
theorem q_KS.sl {S : Nat → Nat → Prop} {n : Nat} {X : XW} {σ τ τ' : ST} {a f : Nat} {v : Int64} (h : q_KS S n X σ τ) (e : τ' = q_sl τ a f v) : q_KS S n X σ τ' := by
  intro b g q hs
  rw [e]
  exact h b g q hs
theorem q_KS.st {S : Nat → Nat → Prop} {n : Nat} {X : XW} {σ τ τ' : ST} {a v : Nat} (h : q_KS S n X σ τ) (e : τ' = q_st τ a v) : q_KS S n X σ τ' := by
  intro b g q hs
  rw [e]
  exact h b g q hs
theorem q_KS.K {S : Nat → Nat → Prop} {n n2 : Nat} {X : XW} {σ τ τ' : ST} (h : q_KS S n X σ τ) (h2 : q_K n2 X τ τ') (hn : n ≤ n2) : q_KS S n X σ τ' := by
  intro b g q hs
  rw [h2 b g (Nat.le_trans q hn)]
  exact h b g q hs
theorem q_KS.KS {S S2 : Nat → Nat → Prop} {n n2 : Nat} {X : XW} {σ τ τ' : ST} (h : q_KS S n X σ τ) (h2 : q_KS S2 n2 X τ τ') (hn : n ≤ n2) (hs2 : ∀ b g, S2 b g → S b g) : q_KS S n X σ τ' := by
  intro b g q hs
  rw [h2 b g (Nat.le_trans q hn) (fun z => hs (hs2 b g z))]
  exact h b g q hs
/-- a cell read behind a put -/
theorem q_rd {τ τ' : ST} {a f : Nat} {v : Int32} (e : τ' = q_si τ a f v) : τ'.1 a f = v := by
  rw [e]
  show (if a = a ∧ f = f then v else _) = v
  rw [if_pos ⟨rfl, rfl⟩]
theorem q_rdn {τ τ' : ST} {a b f g : Nat} {v : Int32} (e : τ' = q_si τ a f v) (h : b ≠ a ∨ g ≠ f) : τ'.1 b g = τ.1 b g := by
  rw [e]
  show (if b = a ∧ g = f then v else τ.1 b g) = _
  rw [if_neg]
  rintro ⟨h1, h2⟩
  rcases h with h | h
  · exact h h1
  · exact h h2
theorem q_rdl {τ τ' : ST} {a b f g : Nat} {v : Int64} (e : τ' = q_sl τ a f v) : τ'.1 b g = τ.1 b g := by rw [e]; rfl
section QZ
variable {p : Program} {l : Launch} {e : Env} {R : Room} {s : State} {m : MethodId} {args : Array Value} {below : List Frame} {meth : Method} {c : Code} {H : Heap} {locs : List Loc} {cells slots : Nat} {Q : State → Prop} {cc : ByteArray} {own : String} {X : XW} {n : Nat} {σ0 σ : ST} {pc : Nat} {ls : Array Slot} {rest : List Value} {a : Nat}
/-- a return that is narrowed to its own type -/
theorem q_retn (E : q_E p c cc s m args own X) {ty : FieldType} (hr : meth.sig.returnType = some ty) (hlk : meth.locks = false) (hI : q_I X n σ0 s.heap locs σ H) {post : Int32 → ST → Prop} {v : Int32} (hn : narrow ty (.int v) = .int v) (hp : post v σ) (hdg : decode cc pc = .ok (.ireturn, 1)) : W p l e R s m args below meth c H locs cells slots (MQ below (q_Qi X n σ0 post) args s cells slots (q_reg X)) (F0 m pc ls [.int v]) :=
  W.zret E.1 E.2.1 hr hn (fun t ht _ => ⟨⟨v, σ, rfl, hp, by show q_Post X n σ0 σ t.heap; rw [ht]; exact hI.post⟩, hI.S.F ht⟩) hI.S.2.2 hdg hlk
/-- System.arraycopy of longs, of one row into another or the same -/
theorem q_copyl (E : q_E p c cc s m args own X) (hml : c.maxLocals = ls.size) (hI : q_I X n σ0 s.heap locs σ H) {a0 index : Nat} (h0 : q_kd X a0 = 21) (h1 : q_kd X a = 21) (hlink : Cond.methodLink own index arraycopyName ∈ q_tbl) (hnat : Cond.native arraycopyName ∈ q_tbl) (hstat : Cond.static arraycopyName ∈ q_tbl) (hini : Cond.initialized "java/lang/System" ∈ q_tbl)
    {sp dp z : Int32} (g1 : 0 ≤ sp.toInt) (g2 : 0 ≤ dp.toInt) (g3 : 0 ≤ z.toInt) (g4 : sp.toInt + z.toInt ≤ 60) (g5 : dp.toInt + z.toInt ≤ 60) (hframes : 1 ≤ R.frames) (hlocals : (rest.map fun v => v.category).sum + (nativeFrameWords "java/lang/System" "arraycopy" 5 + 11) ≤ R.locals) (hdg : decode cc pc = .ok (.invokestatic index, 3)) (hcs : cells ≤ R.cells ∧ slots ≤ R.slots)
    (kk : ∀ (H1 : Heap) (locs1 : List Loc) (σ1 : ST), σ1 = (σ.1, (fun b g => if b = a then va_cpy (σ.2.1 a0) (σ.2.1 a) sp.toNatClampNeg dp.toNatClampNeg z.toNatClampNeg g else σ.2.1 b g, σ.2.2)) → q_I X n σ0 s.heap locs1 σ1 H1 → W p l e R s m args below meth c H1 locs1 cells slots Q (F0 m (pc + 3) ls rest)) : W p l e R s m args below meth c H locs cells slots Q (F0 m pc ls (.int z :: .int dp :: .ref a :: .int sp :: .ref a0 :: rest)) := by
  obtain ⟨hx, hb, hown, hts, ⟨hK, -, -⟩, -⟩ := E
  have e0 := q_arr hI h0 (by decide)
  have e1 := q_arr hI h1 (by decide)
  have l0 : q_ln X a0 = 60 := q_lnk hI h0 rfl (by decide)
  have l1 : q_ln X a = 60 := q_lnk hI h1 rfl (by decide)
  rw [l0] at e0
  rw [l1] at e1
  have nl : ∀ w : Int32, 0 ≤ w.toInt → ¬ w < 0 := fun w h => by rw [Int32.lt_iff_toInt_lt, q_z0]; omega
  have nn : ∀ w : Int32, 0 ≤ w.toInt → (w.toNatClampNeg : Int) = w.toInt := fun w h => by rw [q_cn]; omega
  have k4 : sp.toNatClampNeg + z.toNatClampNeg ≤ 60 := by have := nn sp g1; have := nn z g3; omega
  have k5 : dp.toNatClampNeg + z.toNatClampNeg ≤ 60 := by have := nn dp g2; have := nn z g3; omega
  have fin : ∀ (H1 : Heap) (locs1 : List Loc), H1[a]? = some (vp_cell (q_gA X 2) (60, .inr (.inl (va_cpy (σ.2.1 a0) (σ.2.1 a) sp.toNatClampNeg dp.toNatClampNeg z.toNatClampNeg)))) → (∀ q : Nat, q ≠ a → q_kd X q ≠ 0 → H1[q]? = H[q]?) → va_S (q_reg X) s.heap H1 locs1 → W p l e R s m args below meth c H1 locs1 cells slots Q (F0 m (pc + 3) ls rest) := by
    intro H1 locs1 c1 oq hS
    obtain ⟨i1, i2, i3, i4, i5, i6⟩ := hI
    refine kk H1 locs1 _ rfl ⟨i1, fun b hb => ?_, i3, i4, hS, fun b g q => i6 b g q⟩
    by_cases hba : b = a
    · subst hba
      refine ⟨fun h => absurd h (by omega), fun _ => ?_⟩
      have he : q_et 21 = 2 := rfl
      have hav : q_av X (σ.1, (fun d g => if d = b then va_cpy (σ.2.1 a0) (σ.2.1 b) sp.toNatClampNeg dp.toNatClampNeg z.toNatClampNeg g else σ.2.1 d g, σ.2.2)) 21 b = fun j => Value.long (va_cpy (σ.2.1 a0) (σ.2.1 b) sp.toNatClampNeg dp.toNatClampNeg z.toNatClampNeg j) := by
        funext g
        unfold q_av
        rw [he]
        simp
      rw [c1, l1, h1, he, hav, vp_cell_l]
    · exact (i2 b hb).ne (fun _ => rfl) (fun g => by show (if b = a then _ else _) = _; rw [if_neg hba]) rfl (oq b hba hb)
  have e0' : H[a0]? = some (arrV (q_gA X 2) 60 (fun j => .long (σ.2.1 a0 j))) := e0
  have e1' : H[a]? = some (arrV (q_gA X 2) 60 (fun j => .long (σ.2.1 a j))) := e1
  intro T hT Z
  obtain ⟨-, k0, hk0, cm0, hkk0⟩ := (q_kx_ty hK (t := 2) rfl) 60 (fun j => .long (σ.2.1 a0 j))
  obtain ⟨-, k1, hk1, cm1, hkk1⟩ := (q_kx_ty hK (t := 2) rfl) 60 (fun j => .long (σ.2.1 a j))
  obtain ⟨vm', Z', step⟩ := Z.arraycopy hx hown (hts _ hlink) (hts _ hnat) (hts _ hstat) (hts _ hini) (src := a0) (dst := a) (srcPos := sp) (destPos := dp) (n := z) (by rw [hT]; exact e0') (by rw [hT]; exact e1')
    (fun _ h => by cases h) (fun _ h => by cases h) (fun h => by cases h) (fun h => by cases h) hk0 hk1 hkk0 hkk1 rfl (nl _ g1) (nl _ g2) (nl _ g3)
    (by rw [arrV_size]; omega) (by rw [arrV_size]; omega)
    (fun vm₁ _ i hi => by
      have e : (arrV (q_gA X 2) 60 (fun j => .long (σ.2.1 a0 j))).slots.getD (sp.toNatClampNeg + i) .null = .long (σ.2.1 a0 (sp.toNatClampNeg + i)) := by
        rw [Array.getD_eq_getD_getElem?, arrV_read _ _ (by omega)]
        rfl
      rw [e]
      exact ⟨rfl, trivial⟩)
    (g := F0 m pc ls (.int z :: .int dp :: .ref a :: .int sp :: .ref a0 :: rest)) rfl (by rw [hml]) (rest := rest) rfl (by rw [hb]; exact hdg) hframes (by show 2 * 0 + _ + _ ≤ _; omega)
  have ec : copied (arrV (q_gA X 2) 60 (fun j => .long (σ.2.1 a0 j))) (arrV (q_gA X 2) 60 (fun j => .long (σ.2.1 a j))) sp dp z = arrV (q_gA X 2) 60 (fun j => .long (va_cpy (σ.2.1 a0) (σ.2.1 a) sp.toNatClampNeg dp.toNatClampNeg z.toNatClampNeg j)) := va_copied (fun z => .long z) (q_gA X 2) (q_gA X 2) (σ.2.1 a0) (σ.2.1 a) k4
  rw [ec] at Z' step
  have hl : a < H.size := (Array.getElem?_eq_some_iff.mp e1').1
  have hheap : ((T.setVm vm').setCell a (arrV (q_gA X 2) 60 (fun j => .long (va_cpy (σ.2.1 a0) (σ.2.1 a) sp.toNatClampNeg dp.toNatClampNeg z.toNatClampNeg j)))).heap = H.setIfInBounds a (arrV (q_gA X 2) 60 (fun j => .long (va_cpy (σ.2.1 a0) (σ.2.1 a) sp.toNatClampNeg dp.toNatClampNeg z.toNatClampNeg j))) := by rw [← hT]; rfl
  have oq : ∀ q : Nat, q ≠ a → (H.setIfInBounds a (arrV (q_gA X 2) 60 (fun j => .long (va_cpy (σ.2.1 a0) (σ.2.1 a) sp.toNatClampNeg dp.toNatClampNeg z.toNatClampNeg j))))[q]? = H[q]? := fun q hq => by simp [Array.getElem?_setIfInBounds, Ne.symm hq]
  obtain ⟨t, a1, b1⟩ := fin _ _ (show (H.setIfInBounds a _)[a]? = some _ by rw [vp_cell_l]; simp [Array.getElem?_setIfInBounds, hl]) (fun q g1 _ => oq q g1) ⟨by simp; exact hI.S.1, fun q g1 g2 => by
      rw [oq q (fun e => g2 (by rw [e]; show q_kd X a ≠ 0; omega))]
      exact hI.S.2.1 q g1 g2, fun q hq => by
      rcases List.mem_append.mp hq with h | h
      · exact hI.S.2.2 q h
      · obtain ⟨w, -, hw⟩ := List.mem_map.mp h
        rw [← hw]
        show q_kd X a ≠ 0
        omega⟩ _ hheap Z'
  exact ⟨t, step t a1, b1⟩
end QZ
theorem q_slen_lt (i : Nat) : q_slen.getD i 0 < 2 ^ 31 := by
  have h : ∀ j, j < 22 → q_slen.getD j 0 < 2 ^ 31 := by decide
  rcases Nat.lt_or_ge i 22 with hi | hi
  · exact h i hi
  · have e : q_slen.getD i 0 = 0 := by
      rw [List.getD_eq_getElem?_getD, List.getElem?_eq_none (by show 22 ≤ i; exact hi)]
      rfl
    rw [e]
    decide
theorem q_slen_le (i : Nat) : q_slen.getD i 0 ≤ 1000 := by
  have h : ∀ j, j < 22 → q_slen.getD j 0 ≤ 1000 := by decide
  rcases Nat.lt_or_ge i 22 with hi | hi
  · exact h i hi
  · have e : q_slen.getD i 0 = 0 := by
      rw [List.getD_eq_getElem?_getD, List.getElem?_eq_none (by show 22 ≤ i; exact hi)]
      rfl
    rw [e]
    decide
end
/-! FROM 05.exact.lean.txt -/
section
/-! EXACT ANSWERS: each method's answer and state as a function, piece by piece -/
def q_let {α β : Type} (v : α) (k : α → β) : β := k v
def q_bi {α β : Type} (p : α × ST) (k : α → ST → β) : β := k p.1 p.2
def q_on {β : Type} (r : Option Nat) (A : β) (B : Nat → β) : β := match r with | none => A | some b => B b
/-- by a proof that isn't taken for one by computation: fuel would be counted -/
theorem q_letE {α β : Type} (v : α) (k : α → β) : q_let v k = k v := Eq.trans (Eq.refl (q_let v k)) (Eq.refl (k v))
theorem q_biE {α β : Type} (p : α × ST) (k : α → ST → β) : q_bi p k = k p.1 p.2 := Eq.trans (Eq.refl (q_bi p k)) (Eq.refl (k p.1 p.2))
theorem q_remI (a b : Int32) : a - a / b * b = a % b := by
  apply Int32.toInt_inj.mp
  rw [Int32.toInt_sub, Int32.toInt_mul, Int32.toInt_div, Int.bmod_mul_bmod, Int.sub_bmod_bmod]
  have h := Int.tdiv_mul_add_tmod a.toInt b.toInt
  have e : a.toInt - a.toInt.tdiv b.toInt * b.toInt = (a % b).toInt := by rw [Int32.toInt_mod]; omega
  rw [e]
  exact Int32.toInt_bmod_size _
theorem q_remJ (a b : Int64) : a - a / b * b = a % b := by
  apply Int64.toInt_inj.mp
  rw [Int64.toInt_sub, Int64.toInt_mul, Int64.toInt_div, Int.bmod_mul_bmod, Int.sub_bmod_bmod]
  have h := Int.tdiv_mul_add_tmod a.toInt b.toInt
  have e : a.toInt - a.toInt.tdiv b.toInt * b.toInt = (a % b).toInt := by rw [Int64.toInt_mod]; omega
  rw [e]
  exact Int64.toInt_bmod_size _
theorem q_letX {α β : Type} {v z : α} {k : α → β} {o : β} (h : q_let v k = o) (e : z = v) : k z = o := by
  subst e
  exact h
theorem q_biX {α β : Type} {p : α × ST} {r : α} {σ : ST} {k : α → ST → β} {o : β} (h : q_bi p k = o) (e : (r, σ) = p) : k r σ = o := by
  subst e
  exact h
theorem q_onN {β : Type} {A : β} {B : Nat → β} {o : β} (h : q_on none A B = o) : A = o := h
theorem q_onS {β : Type} {b : Nat} {A : β} {B : Nat → β} {o : β} (h : q_on (some b) A B = o) : B b = o := h
theorem q_ifp {β : Type} {c : Prop} {i : Decidable c} {A B o : β} (h : @ite β c i A B = o) (hc : c) : A = o := by
  rw [if_pos hc] at h
  exact h
theorem q_ifn {β : Type} {c : Prop} {i : Decidable c} {A B o : β} (h : @ite β c i A B = o) (hc : ¬ c) : B = o := by
  rw [if_neg hc] at h
  exact h
def q_len (X : XW) (a : Nat) : Int32 := Int32.ofNat (q_ln X a)
def q_cpyl (σ : ST) (a a0 : Nat) (sp dp z : Int32) : ST := (σ.1, (fun b g => if b = a then va_cpy (σ.2.1 a0) (σ.2.1 a) sp.toNatClampNeg dp.toNatClampNeg z.toNatClampNeg g else σ.2.1 b g, σ.2.2))
/-! which cells a method writes: lists of (kind, place), 99 for all places; ints and longs -/
def q_in2 (L : List (Nat × Nat)) (k f : Nat) : Bool := L.any (fun x => x.1 == k && (x.2 == 99 || x.2 == f))
def q_ow (L M : List (Nat × Nat)) (X : XW) (σ τ : ST) : Prop := (∀ a f, q_in2 L (q_kd X a) f = false → τ.1 a f = σ.1 a f) ∧ ∀ a f, q_in2 M (q_kd X a) f = false → τ.2.1 a f = σ.2.1 a f
theorem q_in2_sub {L L2 : List (Nat × Nat)} (h : L2.all (fun x => L.contains x) = true) {k f : Nat} (hf : q_in2 L k f = false) : q_in2 L2 k f = false := by
  unfold q_in2 at hf ⊢
  rw [List.any_eq_false] at hf ⊢
  intro x hx
  have h1 := List.all_eq_true.mp h x hx
  exact hf x (List.contains_iff_mem.mp h1)
theorem q_ow.rf {L M : List (Nat × Nat)} {X : XW} {σ : ST} : q_ow L M X σ σ := ⟨fun _ _ _ => rfl, fun _ _ _ => rfl⟩
theorem q_ow.call {L M L2 M2 : List (Nat × Nat)} {X : XW} {σ τ τ' : ST} (h : q_ow L M X σ τ) (k : q_ow L2 M2 X τ τ') (s1 : L2.all (fun x => L.contains x) = true) (s2 : M2.all (fun x => M.contains x) = true) : q_ow L M X σ τ' :=
  ⟨fun a f q => (k.1 a f (q_in2_sub s1 q)).trans (h.1 a f q), fun a f q => (k.2 a f (q_in2_sub s2 q)).trans (h.2 a f q)⟩
theorem q_si_ne {τ : ST} {a b f : Nat} {v : Int32} (h : b ≠ a) (g : Nat) : (q_si τ a f v).1 b g = τ.1 b g := by
  show (if b = a ∧ g = f then v else τ.1 b g) = _
  rw [if_neg (fun q => h q.1)]
theorem q_sl_ne {τ : ST} {a b f : Nat} {v : Int64} (h : b ≠ a) (g : Nat) : (q_sl τ a f v).2.1 b g = τ.2.1 b g := by
  show (if b = a ∧ g = f then v else τ.2.1 b g) = _
  rw [if_neg (fun q => h q.1)]
theorem q_ow.si {L M : List (Nat × Nat)} {X : XW} {σ τ τ' : ST} {a k f : Nat} {v : Int32} (h : q_ow L M X σ τ) (e : τ' = q_si τ a f v) (ha : q_kd X a = k) (hw : q_in2 L k f = true) : q_ow L M X σ τ' := by
  subst e
  refine ⟨fun b g q => ?_, fun b g q => h.2 b g q⟩
  show (if b = a ∧ g = f then v else τ.1 b g) = _
  rw [if_neg]
  · exact h.1 b g q
  · rintro ⟨rfl, rfl⟩
    rw [ha, hw] at q
    cases q
theorem q_ow.siR {L M : List (Nat × Nat)} {X : XW} {σ τ τ' : ST} {a f : Nat} {v : Int32} (h : q_ow L M X σ τ) (e : τ' = q_si τ a f v) (ha : q_kd X a = 4 ∨ q_kd X a = 9) (h4 : q_in2 L 4 f = true) (h9 : q_in2 L 9 f = true) : q_ow L M X σ τ' := by
  rcases ha with ha | ha
  · exact h.si e ha h4
  · exact h.si e ha h9
theorem q_ow.sl {L M : List (Nat × Nat)} {X : XW} {σ τ τ' : ST} {a k f : Nat} {v : Int64} (h : q_ow L M X σ τ) (e : τ' = q_sl τ a f v) (ha : q_kd X a = k) (hw : q_in2 M k f = true) : q_ow L M X σ τ' := by
  subst e
  refine ⟨fun b g q => h.1 b g q, fun b g q => ?_⟩
  show (if b = a ∧ g = f then v else τ.2.1 b g) = _
  rw [if_neg]
  · exact h.2 b g q
  · rintro ⟨rfl, rfl⟩
    rw [ha, hw] at q
    cases q
theorem q_ow.st {L M : List (Nat × Nat)} {X : XW} {σ τ τ' : ST} {a v : Nat} (h : q_ow L M X σ τ) (e : τ' = q_st τ a v) : q_ow L M X σ τ' := by
  subst e
  exact h
theorem q_ow.cpy {L M : List (Nat × Nat)} {X : XW} {σ τ τ' : ST} {a a0 k : Nat} {sp dp z : Int32} (h : q_ow L M X σ τ) (e : τ' = q_cpyl τ a a0 sp dp z) (ha : q_kd X a = k) (hw2 : ∀ f, q_in2 M k f = true) : q_ow L M X σ τ' := by
  subst e
  refine ⟨fun b g q => h.1 b g q, fun b g q => ?_⟩
  show (if b = a then _ else τ.2.1 b g) = _
  rw [if_neg]
  · exact h.2 b g q
  · rintro rfl
    rw [ha, hw2] at q
    cases q
section QX
variable {p : Program} {l : Launch} {e : Env} {R : Room} {s : State} {m : MethodId} {args : Array Value} {below : List Frame} {meth : Method} {c : Code} {H : Heap} {locs : List Loc} {cells slots : Nat} {Q : State → Prop} {cc : ByteArray} {own : String} {X : XW} {n : Nat} {σ0 σ : ST} {H0 : Heap} {pc : Nat} {ls : Array Slot} {rest : List Value} {a k : Nat}
theorem q_lcmpX (E : q_E p c cc s m args own X) {x y : Int64} (hdg : decode cc pc = .ok (.lcmp, 1)) (kk : ∀ z : Int32, z = lg_cmp x y → ((z.toInt < 0 ↔ x.toInt < y.toInt) ∧ (0 < z.toInt ↔ y.toInt < x.toInt)) → W p l e R s m args below meth c H locs cells slots Q (F0 m (pc + 1) ls (.int z :: rest))) : W p l e R s m args below meth c H locs cells slots Q (F0 m pc ls (.long y :: .long x :: rest)) := by
  refine W.lcmp E.1 E.2.1 hdg (kk _ rfl ⟨?_, ?_⟩)
  · have h := lg_cmp_lt x y
    rw [Int32.lt_iff_toInt_lt, q_z0, Int64.lt_iff_toInt_lt] at h
    exact h
  · have h := lg_cmp_gt x y
    rw [Int32.lt_iff_toInt_lt, q_z0, Int64.lt_iff_toInt_lt] at h
    exact h
theorem q_alenX (E : q_E p c cc s m args own X) (hI : q_I X n σ0 H0 locs σ H) (ha : q_kd X a = k) (hk : 20 ≤ k) {t : Nat} {ty : FieldType} (he : q_et k = t) (ht : (q_tys X)[t]? = some (q_gA X t, ty)) (hdg : decode cc pc = .ok (.arraylength, 1))
    (kk : ∀ z : Int32, z = q_len X a → z.toInt = (q_ln X a : Int) → W p l e R s m args below meth c H locs cells slots Q (F0 m (pc + 1) ls (.int z :: rest))) : W p l e R s m args below meth c H locs cells slots Q (F0 m pc ls (.ref a :: rest)) := by
  obtain ⟨hx, hb, hown, hts, ⟨hK, -, -⟩, -⟩ := E
  have hc := q_arr hI ha hk
  rw [he] at hc
  have hln := hI.1.2.2.1 a
  exact W.alen (n := Int32.ofNat (q_ln X a)) hx hb hc (q_kx_ty hK ht _ _) (by rw [arrV_size] <;> rfl) rfl rfl hdg (kk _ rfl (nI_toInt (by omega)))
end QX
theorem q_ifOne {x : Int} (b : 0 ≤ x ∧ x ≤ 1) (h : x ≠ 0) : x = 1 := by omega
theorem q_ifYes {x : Int} {P : Prop} (h : x = 1 ↔ P) (e : x = 1) : P := h.mp e
theorem q_ifNo {x : Int} {P : Prop} (h : x = 1 ↔ P) (e : x = 0) : ¬ P := fun p => by
  have := h.mpr p
  omega
end
