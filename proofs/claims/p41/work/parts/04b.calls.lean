/-- a static method of a nest mate -/
def q_okN (own : String) (index : Nat) (host : String) (y : MethodName) (bytes : ByteArray) (mL : Nat) (ret : Option FieldType) (n : Nat) : Prop :=
  (own, index, y, host) ∈ q_nest ∧ Cond.static y ∈ q_tbl ∧ Cond.initialized y.cls ∈ q_tbl ∧ Cond.code y bytes mL ret ∈ q_tbl ∧ (y.cls ≠ "java/lang/invoke/MethodHandle" ∧ y.cls ≠ "java/lang/invoke/VarHandle" ∧ (parseMethodDescriptor y.desc).map (fun d => d.parameters.length) = some n)
/-- a private method is what its own call selects, of a receiver of a subclass too -/
theorem q_selpriv {C : String} {x2 y : MethodName} {s : State} {args : Array Value} (h2 : (Cond.selects C x2 x2).before args s = true) (hcc : x2.cls = y.cls) (hy : y.cls ≠ "java/lang/invoke/MethodHandle" ∧ y.cls ≠ "java/lang/invoke/VarHandle") (hpriv : (Cond.privateMethod y).before args s = true) (hinst : (Cond.instanceMethod y).before args s = true) : (Cond.selects C y y).before args s = true := by
  obtain ⟨c, r, m2, hc, -, hn2, -, kM, hkM, hni⟩ := Cond.selects_spec h2
  obtain ⟨mk, methM, hnamed, hmethM, -, -⟩ := Cond.instanceMethod_spec hinst
  have hfound : s.methodFound? y.cls y.name y.desc = some mk := State.methodFound?_of_named hnamed hy
  have hcls : mk.cls = m2.cls := Option.some.inj ((findClass_of_methodNamed hnamed).symm.trans (by rw [← hcc]; exact findClass_of_methodNamed hn2))
  have hsel : selectMethod {} s.vm c mk = .method mk := selectMethod_private hmethM (Cond.privateMethod_at hpriv mk methM hnamed hmethM)
  first
  | (have e : (Cond.selects C y y).before args s = ((match s.vm.findClass C, s.methodFound? y.cls y.name y.desc, s.methodNamed? y with
      | some c, some r, some m => some (match selectMethod {} s.vm c r with
        | .method m' => decide (m' = m) && (s.vm.classes[m.cls]?).any (!·.isInterface)
        | _ => false)
      | _, _, _ => none) == some true) := rfl
     rw [e]
     simp only [hc, hfound, hnamed, hsel, hcls, hkM]
     simp
     exact hni)
  | (simp only [Cond.before, Cond.holds, Cond.value, hc, hfound, hnamed, hsel, hcls, hkM]
     simp
     exact hni)
/-- an inherited method y, called by the name x, of a receiver of class C -/
def q_okU2 (own : String) (index : Nat) (C owner : String) (x y : MethodName) (bytes : ByteArray) (mL : Nat) (ret : Option FieldType) (n : Nat) : Prop :=
  Cond.methodLink own index x ∈ q_tbl ∧ Cond.sameMethod x.cls owner x.name x.desc ∈ q_tbl ∧ Cond.selects C x y ∈ q_tbl ∧ Cond.instanceMethod y ∈ q_tbl ∧ Cond.initialized y.cls ∈ q_tbl ∧ Cond.code y bytes mL ret ∈ q_tbl ∧ (owner ≠ "java/lang/invoke/MethodHandle" ∧ owner ≠ "java/lang/invoke/VarHandle" ∧ (parseMethodDescriptor x.desc).map (fun d => d.parameters.length) = some n) ∧ y = ⟨owner, x.name, x.desc⟩
section QU
variable {p : Program} {l : Launch} {e : Env} {R : Room} {s : State} {m : MethodId} {args : Array Value} {below : List Frame} {meth : Method} {c : Code} {H : Heap} {locs : List Loc} {cells slots : Nat} {cc : ByteArray} {own : String} {X : XW} {n : Nat} {σ0 σ : ST} {pc : Nat} {ls : Array Slot} {rest st : List Value}
theorem q_pay (E : q_E p c cc s m args own X) {y : MethodName} {bytes : ByteArray} {mL : Nat} {ret : Option FieldType} (h : Cond.code y bytes mL ret ∈ q_tbl) : ∀ w ∈ q_ws y bytes mL ret, ∀ (a' : Array Value) (U : State), s.WarmedH U.vm → w.before a' U = true :=
  pay_in E.2.2.2.1 (q_goodIn fun w hw => (List.mem_cons.mp hw).elim (fun e => by rw [e]; exact h) id)
theorem q_runU (E : q_E p c cc s m args own X) (hml : c.maxLocals = ls.size) (hI : q_I X n σ0 s.heap locs σ H) {As : List Value} {b k ci N index mL na f w : Nat} {C owner : String} {T : u_T} {x y : MethodName} {bytes : ByteArray} {ret : Option FieldType} {Qc : Array Value → State → Outcome → State → Prop}
    (hM : Met l y (q_ws y bytes mL ret) (q_rm f w) (q_P X σ (.ref b :: As)) Qc 0 0 (q_reg X)) (ok : q_okU2 own index C owner x y bytes mL ret na) (hb : q_kd X b = k) (hk : k = ci + 1 ∧ k < 20) (hc : vwCl[ci]? = some (C, T, N)) (hn : As.length = na) (hR : f + 1 ≤ R.frames ∧ 8 + (mL + 11) + w ≤ R.locals) (hcs : cells ≤ R.cells ∧ slots ≤ R.slots)
    (hst : st = As.reverse ++ .ref b :: rest) (hW : (rest.map fun v => v.category).sum ≤ 8) (hdg : decode cc pc = .ok (.invokevirtual index, 3)) :
    va_Run p l e R s m args below meth c H locs cells slots 0 0 (F0 m pc ls st) rest (Qc (Value.ref b :: As).toArray) (q_reg X) := by
  obtain ⟨o1, o2, o3, o4, o5, o6, o7, o8⟩ := ok
  have hts := E.2.2.2.1
  have hsel : (Cond.selects C x y).before args s = true := hts _ o3
  have cw : va_CU R s args own C owner index x y bytes mL ret (q_ws y bytes mL ret) (q_rm f w) 0 0 na := by
    refine ⟨⟨rfl, rfl, hR.1, hR.2, q_pay E o6, List.mem_cons_self⟩, hts _ o6, hts _ o5, ⟨o7.1, o7.2.1⟩, fun sig h => ?_, hts _ o1, hts _ o2, ?_, hsel, hts _ o4⟩
    · have h2 := o7.2.2
      rw [h] at h2
      exact (Option.some.inj h2).symm
    · rw [← o8]
      exact va_Decl.of (hts _ o4) (hts _ o6)
  exact va_runU (nL := ls.size) (q_fix E hml) hM cw (q_preV E hI As hb hk hc) rfl hn rfl hst (lv_room hW) hdg hcs
/-- of a reader, of whichever of the two classes -/
theorem q_runR (E : q_E p c cc s m args own X) (hml : c.maxLocals = ls.size) (hI : q_I X n σ0 s.heap locs σ H) {As : List Value} {b index mL na f w : Nat} {owner : String} {x y : MethodName} {bytes : ByteArray} {ret : Option FieldType} {Qc : Array Value → State → Outcome → State → Prop}
    (hM : Met l y (q_ws y bytes mL ret) (q_rm f w) (q_P X σ (.ref b :: As)) Qc 0 0 (q_reg X)) (ok : q_okU2 own index RX4 owner x y bytes mL ret na ∧ q_okU2 own index RX9 owner x y bytes mL ret na) (hb : q_kd X b = 4 ∨ q_kd X b = 9) (hn : As.length = na) (hR : f + 1 ≤ R.frames ∧ 8 + (mL + 11) + w ≤ R.locals) (hcs : cells ≤ R.cells ∧ slots ≤ R.slots)
    (hst : st = As.reverse ++ .ref b :: rest) (hW : (rest.map fun v => v.category).sum ≤ 8) (hdg : decode cc pc = .ok (.invokevirtual index, 3)) :
    va_Run p l e R s m args below meth c H locs cells slots 0 0 (F0 m pc ls st) rest (Qc (Value.ref b :: As).toArray) (q_reg X) := by
  rcases hb with hb | hb
  · exact q_runU E hml hI hM ok.1 hb ⟨rfl, by decide⟩ (show vwCl[3]? = some (RX4, TX4, 11) from rfl) hn hR hcs hst hW hdg
  · exact q_runU E hml hI hM ok.2 hb ⟨rfl, by decide⟩ (show vwCl[8]? = some (RX9, TX9, 12) from rfl) hn hR hcs hst hW hdg
theorem q_runN (E : q_E p c cc s m args own X) (hml : c.maxLocals = ls.size) (hI : q_I X n σ0 s.heap locs σ H) {As : List Value} {index mL na f w : Nat} {host : String} {y : MethodName} {bytes : ByteArray} {ret : Option FieldType} {Qc : Array Value → State → Outcome → State → Prop}
    (hM : Met l y (q_ws y bytes mL ret) (q_rm f w) (q_P X σ As) Qc 0 0 (q_reg X)) (ok : q_okN own index host y bytes mL ret na) (hn : As.length = na) (hR : f + 1 ≤ R.frames ∧ 8 + (mL + 11) + w ≤ R.locals) (hcs : cells ≤ R.cells ∧ slots ≤ R.slots)
    (hst : st = As.reverse ++ rest) (hW : (rest.map fun v => v.category).sum ≤ 8) (hdg : decode cc pc = .ok (.invokestatic index, 3)) :
    va_Run p l e R s m args below meth c H locs cells slots 0 0 (F0 m pc ls st) rest (Qc As.toArray) (q_reg X) := by
  obtain ⟨o1, o2, o3, o4, o5⟩ := ok
  have hl : va_Nw (.methodLinkNest own index y host) s := E.2.2.2.2.1.2.1 _ o1
  refine va_runSN (nL := ls.size) (q_fix E hml) hM ⟨va_cnB na E.2.2.2.1 (q_goodIn fun w hw => (List.mem_cons.mp hw).elim (fun e => by rw [e]; exact o4) id) rfl rfl rfl hl (E.2.2.2.1 _ o3) o5 hR, E.2.2.2.1 _ o2, trivial⟩ (q_preS E hI As) rfl hn rfl hst (lv_room hW) hdg hcs
end QU
