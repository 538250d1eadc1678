/-- a static method of a nest mate -/
def q_okN (own : String) (index : Nat) (host : String) (y : MethodName) (bytes : ByteArray) (mL : Nat) (ret : Option FieldType) (n : Nat) : Prop :=
  (own, index, y, host) ∈ q_nest ∧ Cond.static y ∈ q_tbl ∧ Cond.initialized y.cls ∈ q_tbl ∧ Cond.code y bytes mL ret ∈ q_tbl ∧ (y.cls ≠ "java/lang/invoke/MethodHandle" ∧ y.cls ≠ "java/lang/invoke/VarHandle" ∧ (parseMethodDescriptor y.desc).map (fun d => d.parameters.length) = some n)
/-- a private method is what its own call selects, of a receiver of a subclass too -/
theorem q_selpriv {C : String} {x2 y : MethodName} {s : State} {args : Array Value} (h2 : (Cond.selects C x2 x2).before args s = true) (hcc : x2.cls = y.cls) (hy : y.cls ≠ "java/lang/invoke/MethodHandle" ∧ y.cls ≠ "java/lang/invoke/VarHandle") (hpriv : (Cond.privateMethod y).before args s = true) (hinst : (Cond.instanceMethod y).before args s = true) : (Cond.selects C y y).before args s = true := by
  obtain ⟨c, r, m2, hc, -, hn2, -, kM, hkM, hni⟩ := Cond.selects_spec h2
  obtain ⟨mk, methM, hnamed, hmethM, -, -⟩ := Cond.instanceMethod_spec hinst
  have hfound : s.methodFound? y.cls y.name y.desc = some mk := State.methodFound?_of_named hnamed hy
  have hcls : mk.cls = m2.cls := Option.some.inj ((findClass_of_methodNamed hnamed).symm.trans (by rw [← hcc]; exact findClass_of_methodNamed hn2))
  have hsel : selectMethod {} s.vm c mk = .method mk := selectMethod_private hmethM (Cond.privateMethod_at hpriv mk methM hnamed hmethM)
  first
  | (have e : (Cond.selects C y y).before args s = ((match s.vm.findClass C, s.methodFound? y.cls y.name y.desc, s.methodNamed? y with
      | some c, some r, some m => some (match selectMethod {} s.vm c r with
        | .method m' => decide (m' = m) && (s.vm.classes[m.cls]?).any (!·.isInterface)
        | _ => false)
      | _, _, _ => none) == some true) := rfl
     rw [e]
     simp only [hc, hfound, hnamed, hsel, hcls, hkM]
     simp
     exact hni)
  | (simp only [Cond.before, Cond.holds, Cond.value, hc, hfound, hnamed, hsel, hcls, hkM]
     simp
     exact hni)
