section QU
variable {p : Program} {l : Launch} {e : Env} {R : Room} {s : State} {m : MethodId} {args : Array Value} {below : List Frame} {meth : Method} {c : Code} {H : Heap} {locs : List Loc} {cells slots : Nat} {cc : ByteArray} {own : String} {X : XW} {n : Nat} {σ0 σ : ST} {pc : Nat} {ls : Array Slot} {rest st : List Value}
/-- of a reader, of whichever of the two classes -/
theorem q_runR (E : q_E p c cc s m args own X) (hml : c.maxLocals = ls.size) (hI : q_I X n σ0 s.heap locs σ H) {As : List Value} {b index mL na f w : Nat} {owner : String} {x y : MethodName} {bytes : ByteArray} {ret : Option FieldType} {Qc : Array Value → State → Outcome → State → Prop}
    (hM : Met l y (q_ws y bytes mL ret) (q_rm f w) (q_P X σ (.ref b :: As)) Qc 0 0 (q_reg X)) (ok : q_okU2 own index RX4 owner x y bytes mL ret na ∧ q_okU2 own index RX9 owner x y bytes mL ret na) (hb : q_kd X b = 4 ∨ q_kd X b = 9) (hn : As.length = na) (hR : f + 1 ≤ R.frames ∧ 8 + (mL + 11) + w ≤ R.locals) (hcs : cells ≤ R.cells ∧ slots ≤ R.slots)
    (hst : st = As.reverse ++ .ref b :: rest) (hW : (rest.map fun v => v.category).sum ≤ 8) (hdg : decode cc pc = .ok (.invokevirtual index, 3)) :
    va_Run p l e R s m args below meth c H locs cells slots 0 0 (F0 m pc ls st) rest (Qc (Value.ref b :: As).toArray) (q_reg X) := by
  rcases hb with hb | hb
  · first | exact q_runU (k := 4) (ci := 3) (C := RX4) (T := TX4) (N := 11) E hml hI hM ok.1 hb ⟨rfl, by decide⟩ rfl hn hR hcs hst hW hdg | exact q_runU E hml hI hM ok.1 hb ⟨rfl, by decide⟩ (show vwCl[3]? = some (RX4, TX4, 11) from rfl) hn hR hcs hst hW hdg
  · first | exact q_runU (k := 9) (ci := 8) (C := RX9) (T := TX9) (N := 12) E hml hI hM ok.2 hb ⟨rfl, by decide⟩ rfl hn hR hcs hst hW hdg | exact q_runU E hml hI hM ok.2 hb ⟨rfl, by decide⟩ (show vwCl[8]? = some (RX9, TX9, 12) from rfl) hn hR hcs hst hW hdg
theorem q_runN (E : q_E p c cc s m args own X) (hml : c.maxLocals = ls.size) (hI : q_I X n σ0 s.heap locs σ H) {As : List Value} {index mL na f w : Nat} {host : String} {y : MethodName} {bytes : ByteArray} {ret : Option FieldType} {Qc : Array Value → State → Outcome → State → Prop}
    (hM : Met l y (q_ws y bytes mL ret) (q_rm f w) (q_P X σ As) Qc 0 0 (q_reg X)) (ok : q_okN own index host y bytes mL ret na) (hn : As.length = na) (hR : f + 1 ≤ R.frames ∧ 8 + (mL + 11) + w ≤ R.locals) (hcs : cells ≤ R.cells ∧ slots ≤ R.slots)
    (hst : st = As.reverse ++ rest) (hW : (rest.map fun v => v.category).sum ≤ 8) (hdg : decode cc pc = .ok (.invokestatic index, 3)) :
    va_Run p l e R s m args below meth c H locs cells slots 0 0 (F0 m pc ls st) rest (Qc As.toArray) (q_reg X) := by
  obtain ⟨o1, o2, o3, o4, o5⟩ := ok
  have hl : va_Nw (.methodLinkNest own index y host) s := E.2.2.2.2.1.2.1 _ o1
  refine va_runSN (nL := ls.size) (q_fix E hml) hM ⟨va_cnB na E.2.2.2.1 (q_goodIn fun w hw => (List.mem_cons.mp hw).elim (fun e => by rw [e]; exact o4) id) rfl rfl rfl hl (E.2.2.2.1 _ o3) o5 hR, E.2.2.2.1 _ o2, trivial⟩ (q_preS E hI As) rfl hn rfl hst (lv_room hW) hdg hcs
end QU
