def q_j9L : List (String × String) := [("min", "(II)I"), ("max", "(II)I"), ("floorMod", "(II)I"), ("abs", "(J)J")]
theorem q_j9a : Jvm.natives.all (fun r => !(r.cls == "java/lang/Math" && q_j9L.contains (r.name, r.desc))) = true := by decide +kernel
theorem q_j9 {n d : String} (h : q_j9L.contains (n, d) = true) : plainFor ⟨"java/lang/Math", n, d⟩ = true := by
  have k : (NativeRow.find? Jvm.natives "java/lang/Math" n d).isNone = true := by
    unfold NativeRow.find?
    rw [List.find?_eq_none.mpr]
    · rfl
    · intro r hr hq
      have a := List.all_eq_true.mp q_j9a r hr
      simp only [Bool.and_eq_true, beq_iff_eq] at hq
      rw [hq.1.2, hq.1.1, hq.2, h] at a
      exact absurd a (by decide)
  unfold plainFor
  rw [k, Bool.or_true]
