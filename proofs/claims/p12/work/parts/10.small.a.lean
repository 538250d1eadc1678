theorem q_j9a : Jvm.natives.all (fun r => !(r.cls == "java/lang/Math" && ["min", "max", "floorMod", "abs"].contains r.name)) = true := by decide +kernel
theorem q_j9 {n d : String} (h : ["min", "max", "floorMod", "abs"].contains n = true) : plainFor ⟨"java/lang/Math", n, d⟩ = true := by
  have k : (NativeRow.find? Jvm.natives "java/lang/Math" n d).isNone = true := by
    unfold NativeRow.find?
    rw [List.find?_eq_none.mpr]
    · rfl
    · intro r hr hq
      have a := List.all_eq_true.mp q_j9a r hr
      simp only [Bool.and_eq_true, beq_iff_eq] at hq
      rw [hq.1.2, hq.1.1, h] at a
      exact absurd a (by decide)
  unfold plainFor
  rw [k, Bool.or_true]
