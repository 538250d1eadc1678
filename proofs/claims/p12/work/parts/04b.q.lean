/-- an inherited method y, called by the name x, of a receiver of class C -/
def q_okU2 (own : String) (index : Nat) (C owner : String) (x y : MethodName) (bytes : ByteArray) (mL : Nat) (ret : Option FieldType) (n : Nat) : Prop :=
  Cond.methodLink own index x ∈ q_tbl ∧ Cond.sameMethod x.cls owner x.name x.desc ∈ q_tbl ∧ Cond.selects C x y ∈ q_tbl ∧ Cond.instanceMethod y ∈ q_tbl ∧ Cond.initialized y.cls ∈ q_tbl ∧ Cond.code y bytes mL ret ∈ q_tbl ∧ (owner ≠ "java/lang/invoke/MethodHandle" ∧ owner ≠ "java/lang/invoke/VarHandle" ∧ (parseMethodDescriptor x.desc).map (fun d => d.parameters.length) = some n) ∧ y = ⟨owner, x.name, x.desc⟩
section QU
variable {p : Program} {l : Launch} {e : Env} {R : Room} {s : State} {m : MethodId} {args : Array Value} {below : List Frame} {meth : Method} {c : Code} {H : Heap} {locs : List Loc} {cells slots : Nat} {cc : ByteArray} {own : String} {X : XW} {n : Nat} {σ0 σ : ST} {pc : Nat} {ls : Array Slot} {rest st : List Value}
theorem q_pay (E : q_E p c cc s m args own X) {y : MethodName} {bytes : ByteArray} {mL : Nat} {ret : Option FieldType} (h : Cond.code y bytes mL ret ∈ q_tbl) : ∀ w ∈ q_ws y bytes mL ret, ∀ (a' : Array Value) (U : State), s.WarmedH U.vm → w.before a' U = true :=
  pay_in E.2.2.2.1 (q_goodIn fun w hw => (List.mem_cons.mp hw).elim (fun e => by rw [e]; exact h) id)
end QU
