theorem q_inc {x z : Int32} (e : z = x + 1) (h : x.toInt < 2147483647) : z.toInt = x.toInt + 1 := by
  have h0 := q_rng x
  have h1 : (1 : Int32).toInt = 1 := rfl
  have h2 := q_add e (by rw [h1]; omega) (by rw [h1]; omega)
  rw [h2, h1]
theorem q_dec {x z : Int32} (e : z = x + (-1)) (h : -2147483648 < x.toInt) : z.toInt = x.toInt - 1 := by
  have h0 := q_rng x
  have h1 : (-1 : Int32).toInt = -1 := rfl
  have h2 := q_add e (by rw [h1]; omega) (by rw [h1]; omega)
  rw [h2, h1]
  omega
section QT
variable {p : Program} {l : Launch} {e : Env} {R : Room} {s : State} {m : MethodId} {args : Array Value} {below : List Frame} {meth : Method} {c : Code} {H : Heap} {locs : List Loc} {cells slots : Nat} {cc : ByteArray} {own : String} {X : XW} {n : Nat} {σ0 σ : ST} {pc : Nat} {ls : Array Slot} {rest st : List Value}
/-- a call on a String constant -/
theorem q_runT (E : q_E p c cc s m args own X) (hml : c.maxLocals = ls.size) (hI : q_I X n σ0 s.heap locs σ H) {As : List Value} {i index mL na f w : Nat} {y : MethodName} {bytes : ByteArray} {ret : Option FieldType} {Qc : Array Value → State → Outcome → State → Prop}
    (hM : Met l y (q_ws y bytes mL ret) (q_rm f w) (q_P X σ (.ref (q_sk X i) :: As)) Qc 0 0 (q_reg X)) (ok : q_okV own index "java/lang/String" y bytes mL ret na) (hi : i < 22) (hn : As.length = na) (hR : f + 1 ≤ R.frames ∧ 8 + (mL + 11) + w ≤ R.locals) (hcs : cells ≤ R.cells ∧ slots ≤ R.slots)
    (hst : st = As.reverse ++ .ref (q_sk X i) :: rest) (hW : (rest.map fun v => v.category).sum ≤ 8) (hdg : decode cc pc = .ok (.invokevirtual index, 3)) :
    va_Run p l e R s m args below meth c H locs cells slots 0 0 (F0 m pc ls st) rest (Qc (Value.ref (q_sk X i) :: As).toArray) (q_reg X) := by
  obtain ⟨o1, o2, o3, o4, o5, o6⟩ := ok
  refine va_runV (nL := ls.size) (q_fix E hml) hM (cwV na E.2.2.2.1 (q_goodIn fun w hw => ?_) rfl rfl rfl o6 hR) ⟨q_blind, vk_recv E.2.2.2.2.2.1 hi hI.S, (q_preS E hI (.ref (q_sk X i) :: As)).2⟩ rfl hn rfl hst (lv_room hW) hdg hcs
  unfold wsV at hw
  rcases List.mem_append.mp hw with h | h
  · simp only [List.mem_cons, List.not_mem_nil, or_false] at h
    rcases h with rfl | rfl | rfl | rfl
    · exact o1
    · exact o2
    · exact o3
    · exact o4
  · rcases List.mem_cons.mp h with rfl | h
    · exact o5
    · exact h
end QT
theorem q_inX0 : ∀ w ∈ u_ws RX0 TX0 15, w ∈ q_tbl := by decide +kernel
theorem q_inX1 : ∀ w ∈ u_ws RX1 TX1 7, w ∈ q_tbl := by decide +kernel
theorem q_inX2 : ∀ w ∈ u_ws RX2 TX2 6, w ∈ q_tbl := by decide +kernel
theorem q_inX4 : ∀ w ∈ u_ws RX4 TX4 11, w ∈ q_tbl := by decide +kernel
theorem q_inX5 : ∀ w ∈ u_ws RX5 TX5 1, w ∈ q_tbl := by decide +kernel
theorem q_inX6 : ∀ w ∈ u_ws RX6 TX6 8, w ∈ q_tbl := by decide +kernel
theorem q_inX7 : ∀ w ∈ u_ws RX7 TX7 8, w ∈ q_tbl := by decide +kernel
theorem q_inX8 : ∀ w ∈ u_ws RX8 TX8 8, w ∈ q_tbl := by decide +kernel
theorem q_inX9 : ∀ w ∈ u_ws RX9 TX9 12, w ∈ q_tbl := by decide +kernel
theorem q_inX10 : ∀ w ∈ u_ws RX10 TX10 3, w ∈ q_tbl := by decide +kernel
theorem q_inX11 : ∀ w ∈ u_ws RX11 TX11 17, w ∈ q_tbl := by decide +kernel
theorem q_inX12 : ∀ w ∈ u_ws RX12 TX12 46, w ∈ q_tbl := by decide +kernel
