section QU
variable {p : Program} {l : Launch} {e : Env} {R : Room} {s : State} {m : MethodId} {args : Array Value} {below : List Frame} {meth : Method} {c : Code} {H : Heap} {locs : List Loc} {cells slots : Nat} {cc : ByteArray} {own : String} {X : XW} {n : Nat} {σ0 σ : ST} {pc : Nat} {ls : Array Slot} {rest st : List Value}
theorem q_runU (E : q_E p c cc s m args own X) (hml : c.maxLocals = ls.size) (hI : q_I X n σ0 s.heap locs σ H) {As : List Value} {b k ci N index mL na f w : Nat} {C owner : String} {T : u_T} {x y : MethodName} {bytes : ByteArray} {ret : Option FieldType} {Qc : Array Value → State → Outcome → State → Prop}
    (hM : Met l y (q_ws y bytes mL ret) (q_rm f w) (q_P X σ (.ref b :: As)) Qc 0 0 (q_reg X)) (ok : q_okU2 own index C owner x y bytes mL ret na) (hb : q_kd X b = k) (hk : k = ci + 1 ∧ k < 20) (hc : vwCl[ci]? = some (C, T, N)) (hn : As.length = na) (hR : f + 1 ≤ R.frames ∧ 8 + (mL + 11) + w ≤ R.locals) (hcs : cells ≤ R.cells ∧ slots ≤ R.slots)
    (hst : st = As.reverse ++ .ref b :: rest) (hW : (rest.map fun v => v.category).sum ≤ 8) (hdg : decode cc pc = .ok (.invokevirtual index, 3)) :
    va_Run p l e R s m args below meth c H locs cells slots 0 0 (F0 m pc ls st) rest (Qc (Value.ref b :: As).toArray) (q_reg X) := by
  obtain ⟨o1, o2, o3, o4, o5, o6, o7, o8⟩ := ok
  have hts := E.2.2.2.1
  have hsel : (Cond.selects C x y).before args s = true := hts _ o3
  have cw : va_CU R s args own C owner index x y bytes mL ret (q_ws y bytes mL ret) (q_rm f w) 0 0 na := by
    refine ⟨⟨rfl, rfl, hR.1, hR.2, q_pay E o6, List.mem_cons_self⟩, hts _ o6, hts _ o5, ⟨o7.1, o7.2.1⟩, fun sig h => ?_, hts _ o1, hts _ o2, ?_, hsel, hts _ o4⟩
    · have h2 := o7.2.2
      rw [h] at h2
      exact (Option.some.inj h2).symm
    · rw [← o8]
      exact va_Decl.of (hts _ o4) (hts _ o6)
  exact va_runU (nL := ls.size) (q_fix E hml) hM cw (q_preV E hI As hb hk hc) rfl hn rfl hst (lv_room hW) hdg hcs
end QU
